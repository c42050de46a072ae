section
-- ===== PART A: goes FIRST, ahead of the names: the tables' words, and 'selects' of the private methods out of them =====
/-- a private method of a class that the tables say can be made, by its rows of tables_1 -/
def lw_okq (q : MethodName × Nat) : Prop := (q.1.cls ≠ "java/lang/invoke/MethodHandle" ∧ q.1.cls ≠ "java/lang/invoke/VarHandle") ∧ Cond.instantiable q.1.cls q.2 ∈ tables_1 ∧ Cond.privateMethod q.1 ∈ tables_1 ∧ Cond.instanceMethod q.1 ∈ tables_1
theorem lw_p0 : lw_okq (⟨"OasisBooks", "mustLive", "(I)V"⟩, 3) := ⟨⟨by decide +kernel, by decide +kernel⟩, List.mem_of_getElem? (i := 23) (by decide +kernel), List.mem_of_getElem? (i := 21) (by decide +kernel), List.mem_of_getElem? (i := 22) (by decide +kernel)⟩
theorem lw_p1 : lw_okq (⟨"java/lang/Throwable", "fillInStackTrace", "(I)Ljava/lang/Throwable;"⟩, 6) := ⟨⟨by decide +kernel, by decide +kernel⟩, List.mem_of_getElem? (i := 77) (by decide +kernel), List.mem_of_getElem? (i := 75) (by decide +kernel), List.mem_of_getElem? (i := 76) (by decide +kernel)⟩
theorem lw_p2 : lw_okq (⟨"OasisBooks$Deals", "set", "(III)V"⟩, 2) := ⟨⟨by decide +kernel, by decide +kernel⟩, List.mem_of_getElem? (i := 172) (by decide +kernel), List.mem_of_getElem? (i := 170) (by decide +kernel), List.mem_of_getElem? (i := 171) (by decide +kernel)⟩
theorem lw_p3 : lw_okq (⟨"OasisBooks$Oasis", "letDayGoBy", "(I)I"⟩, 8) := ⟨⟨by decide +kernel, by decide +kernel⟩, List.mem_of_getElem? (i := 205) (by decide +kernel), List.mem_of_getElem? (i := 203) (by decide +kernel), List.mem_of_getElem? (i := 204) (by decide +kernel)⟩
theorem lw_p4 : lw_okq (⟨"OasisBooks$Oasis", "giveWater", "()I"⟩, 8) := ⟨⟨by decide +kernel, by decide +kernel⟩, List.mem_of_getElem? (i := 205) (by decide +kernel), List.mem_of_getElem? (i := 227) (by decide +kernel), List.mem_of_getElem? (i := 228) (by decide +kernel)⟩
theorem lw_p5 : lw_okq (⟨"OasisBooks$Oasis", "giveLentWater", "(LOasisBooks$Owner;III)I"⟩, 8) := ⟨⟨by decide +kernel, by decide +kernel⟩, List.mem_of_getElem? (i := 205) (by decide +kernel), List.mem_of_getElem? (i := 240) (by decide +kernel), List.mem_of_getElem? (i := 241) (by decide +kernel)⟩
theorem lw_p6 : lw_okq (⟨"OasisBooks$Oasis", "deliverSales", "()V"⟩, 8) := ⟨⟨by decide +kernel, by decide +kernel⟩, List.mem_of_getElem? (i := 205) (by decide +kernel), List.mem_of_getElem? (i := 275) (by decide +kernel), List.mem_of_getElem? (i := 276) (by decide +kernel)⟩
theorem lw_p7 : lw_okq (⟨"OasisBooks$Deals", "moveTo", "(II)V"⟩, 2) := ⟨⟨by decide +kernel, by decide +kernel⟩, List.mem_of_getElem? (i := 172) (by decide +kernel), List.mem_of_getElem? (i := 288) (by decide +kernel), List.mem_of_getElem? (i := 289) (by decide +kernel)⟩
theorem lw_p8 : lw_okq (⟨"OasisBooks", "imagineLater", "(II)V"⟩, 3) := ⟨⟨by decide +kernel, by decide +kernel⟩, List.mem_of_getElem? (i := 23) (by decide +kernel), List.mem_of_getElem? (i := 338) (by decide +kernel), List.mem_of_getElem? (i := 339) (by decide +kernel)⟩
theorem lw_p9 : lw_okq (⟨"OasisBooks$People", "putAt", "(II)V"⟩, 5) := ⟨⟨by decide +kernel, by decide +kernel⟩, List.mem_of_getElem? (i := 360) (by decide +kernel), List.mem_of_getElem? (i := 358) (by decide +kernel), List.mem_of_getElem? (i := 359) (by decide +kernel)⟩
theorem lw_p10 : lw_okq (⟨"OasisBooks", "cameUntilLater", "(I)I"⟩, 3) := ⟨⟨by decide +kernel, by decide +kernel⟩, List.mem_of_getElem? (i := 23) (by decide +kernel), List.mem_of_getElem? (i := 367) (by decide +kernel), List.mem_of_getElem? (i := 368) (by decide +kernel)⟩
theorem lw_p11 : lw_okq (⟨"OasisBooks", "imagineHarvest", "(I)V"⟩, 3) := ⟨⟨by decide +kernel, by decide +kernel⟩, List.mem_of_getElem? (i := 23) (by decide +kernel), List.mem_of_getElem? (i := 383) (by decide +kernel), List.mem_of_getElem? (i := 384) (by decide +kernel)⟩
theorem lw_p12 : lw_okq (⟨"OasisBooks", "reapedAtHarvest", "(I)I"⟩, 3) := ⟨⟨by decide +kernel, by decide +kernel⟩, List.mem_of_getElem? (i := 23) (by decide +kernel), List.mem_of_getElem? (i := 391) (by decide +kernel), List.mem_of_getElem? (i := 392) (by decide +kernel)⟩
theorem lw_p13 : lw_okq (⟨"OasisBooks", "digestOwners", "(J)J"⟩, 3) := ⟨⟨by decide +kernel, by decide +kernel⟩, List.mem_of_getElem? (i := 23) (by decide +kernel), List.mem_of_getElem? (i := 402) (by decide +kernel), List.mem_of_getElem? (i := 403) (by decide +kernel)⟩
def lw_privs_1 : List (MethodName × Nat) := [(⟨"OasisBooks", "mustLive", "(I)V"⟩, 3), (⟨"java/lang/Throwable", "fillInStackTrace", "(I)Ljava/lang/Throwable;"⟩, 6), (⟨"OasisBooks$Deals", "set", "(III)V"⟩, 2), (⟨"OasisBooks$Oasis", "letDayGoBy", "(I)I"⟩, 8), (⟨"OasisBooks$Oasis", "giveWater", "()I"⟩, 8), (⟨"OasisBooks$Oasis", "giveLentWater", "(LOasisBooks$Owner;III)I"⟩, 8), (⟨"OasisBooks$Oasis", "deliverSales", "()V"⟩, 8), (⟨"OasisBooks$Deals", "moveTo", "(II)V"⟩, 2), (⟨"OasisBooks", "imagineLater", "(II)V"⟩, 3), (⟨"OasisBooks$People", "putAt", "(II)V"⟩, 5), (⟨"OasisBooks", "cameUntilLater", "(I)I"⟩, 3), (⟨"OasisBooks", "imagineHarvest", "(I)V"⟩, 3), (⟨"OasisBooks", "reapedAtHarvest", "(I)I"⟩, 3), (⟨"OasisBooks", "digestOwners", "(J)J"⟩, 3)]
theorem lw_r1 : ∀ q ∈ lw_privs_1, lw_okq q := List.forall_mem_cons.mpr ⟨lw_p0, List.forall_mem_cons.mpr ⟨lw_p1, List.forall_mem_cons.mpr ⟨lw_p2, List.forall_mem_cons.mpr ⟨lw_p3, List.forall_mem_cons.mpr ⟨lw_p4, List.forall_mem_cons.mpr ⟨lw_p5, List.forall_mem_cons.mpr ⟨lw_p6, List.forall_mem_cons.mpr ⟨lw_p7, List.forall_mem_cons.mpr ⟨lw_p8, List.forall_mem_cons.mpr ⟨lw_p9, List.forall_mem_cons.mpr ⟨lw_p10, List.forall_mem_cons.mpr ⟨lw_p11, List.forall_mem_cons.mpr ⟨lw_p12, List.forall_mem_cons.mpr ⟨lw_p13, fun _ h => absurd h List.not_mem_nil⟩⟩⟩⟩⟩⟩⟩⟩⟩⟩⟩⟩⟩⟩
def lw_privs : List (MethodName × Nat) := lw_privs_1
def lw_tbl : List Cond := k2_sels lw_privs ++ tables_1
theorem lw_privs_ok : ∀ q ∈ lw_privs, lw_okq q := lw_r1
/-! ===== BEGIN words of one list among another's, by their places ===== -/
theorem goodIn_r {big : List Cond} (ws : List Cond) (ps : List Nat) (hp : ws = ps.filterMap (fun i => big[i]?)) (h : ws.all goodWord = true) : GoodIn big ws := by
  intro w hw
  have h1 := List.all_eq_true.mp h w hw
  rw [hp] at hw
  obtain ⟨i, -, hi⟩ := List.mem_filterMap.mp hw
  have hm : w ∈ big := by first | exact List.mem_of_getElem? hi | exact List.getElem?_mem hi
  exact ⟨hm, good_of_word h1⟩
theorem goodIn_app {big a b : List Cond} (ha : GoodIn big a) (hb : GoodIn big b) : GoodIn big (a ++ b) := fun w h => (List.mem_append.mp h).elim (ha w) (hb w)
theorem goodIn_ca {big a b : List Cond} {c : Cond} (ha : GoodIn big (c :: a)) (hb : GoodIn big b) : GoodIn big (c :: (a ++ b)) := fun w h => (List.mem_cons.mp h).elim (fun e => ha w (List.mem_cons.mpr (Or.inl e))) (fun h => (List.mem_append.mp h).elim (fun h => ha w (List.mem_cons.mpr (Or.inr h))) (hb w))
theorem goodIn_sub {big ws : List Cond} (hm : ∀ w ∈ ws, w ∈ big) (h : ws.all goodWord = true) : GoodIn big ws := fun w hw => ⟨hm w hw, good_of_word (List.all_eq_true.mp h w hw)⟩
/-! ===== END ===== -/


/-! ===== BEGIN exceptions that leave a method, and their catching by the caller (launches without stack traces) ===== -/
section VXA
/-! The laws vx_back, vx_callV, vx_callS, vx_callSW, vx_throw0, vx_throwS follow proofs of the library, with one case more: JvmDerived/Free/Laws.lean (Back.of_free), Shelf42/LK1.lean (callV, callS), Shelf/KitTraced.lean (throwNew0V, throwNewS). -/
/-- where a method has thrown q: the class by its name, the cell, what was written, the world -/
def vx_T (XC : String → State → State → Prop) (st : State) (q : Addr) (t : State) (mc ms : Nat) (free : Addr → Prop) : Prop :=
  ∃ (E : String) (ce : Cell) (L : List Loc), XC E st t ∧ t.heap[q]? = some ce ∧ ce.vm = .none ∧ st.vm.findClass E = some ce.cls ∧ st.WarmedH t.vm ∧ st.sameButNew ({ t with vm := st.vm } : State) L mc ms ∧ ∀ z ∈ L, free z.base
def vx_Q (Qc : Array Value → State → Outcome → State → Prop) (XC : String → State → State → Prop) (mc ms : Nat) (free : Addr → Prop) : Array Value → State → Outcome → State → Prop := fun a st o t =>
  (Qc a st o t ∧ ∃ L, FrameEnd st o t L mc ms ∧ ∀ q ∈ L, free q.base) ∨ ∃ q, o = .threw q ∧ vx_T XC st q t mc ms free
/-- a callee that returns or throws -/
def vx_Met (l : Launch) (y : MethodName) (ws : List Cond) (rm : Room) (Pc : Array Value → State → Prop) (Qc : Array Value → State → Outcome → State → Prop) (XC : String → State → State → Prop) (mc ms : Nat) (free : Addr → Prop) : Prop :=
  MetFree l y (headSpec ws rm) Pc (fun _ _ _ _ _ => True) (vx_Q Qc XC mc ms free)
def vx_Post (XC : String → State → State → Prop) (mc ms : Nat) (free : Addr → Prop) : Pt → Array Value → Addr → Pt → Prop := fun A a q B =>
  ∃ (g : JFrame) (mk : MethodId) (t : State) (L : List Loc) (E : String) (ce : Cell), B.U.heap = t.heap ∧ B.U.vm = t.vm ∧ XC E (A.U.calling g mk a) t ∧ t.heap[q]? = some ce ∧ ce.vm = .none ∧ A.U.vm.findClass E = some ce.cls ∧ B.locs = A.locs ++ L ∧ (∀ z ∈ L, free z.base) ∧ B.cells = A.cells + mc ∧ B.slots = A.slots + ms
def vx_Back (l : Launch) (R : Room) (p : Program) (e : Env) (below : List Frame) (s : State) (sargs : Array Value) (y : MethodName) (len W9 : Nat)
    (Pre : Pt → Array Value → Prop) (Post : Pt → Array Value → Option Value → Pt → Prop) (PostX : Pt → Array Value → Addr → Pt → Prop) : Prop :=
  ∀ (m : MethodId) (meth : Method) (c : Code) (A : Pt) (g : JFrame) (ig : Instr) (mk : MethodId) (a : Array Value),
    Stand p l e R s m sargs below meth c A.U A.locs A.cells A.slots → g.method = m → g.locals.size = c.maxLocals → decode c.code g.pc = .ok (ig, len) →
    2 * g.monitorRoom + (g.stack.map fun v => v.category).sum ≤ W9 → A.U.methodNamed? y = some mk → Pre A a →
    (∃ (v : Option Value) (B : Pt), Stand p l e R s m sargs below meth c B.U B.locs B.cells B.slots ∧ Post A a v B ∧
      Steps p.tables e below (doInvoke e (A.U.setTop g) [] mk a).1 (B.U.setTop { g with pc := g.pc + len, stack := v.toList ++ g.stack })) ∨
    (∃ (q : Addr) (B : Pt), Stand p l e R s m sargs below meth c B.U B.locs B.cells B.slots ∧ PostX A a q B ∧
      Steps p.tables e below (doInvoke e (A.U.setTop g) [] mk a).1 ((B.U.setTop g).pushFrame (.throwing q)))
section Payer
variable {l : Launch} {R : Room} {p : Program} {e : Env} {below : List Frame} {s : State} {sargs : Array Value} {y : MethodName} {len W9 : Nat}
theorem vx_back {ws : List Cond} {rm : Room} {Pc : Array Value → State → Prop} {Qc : Array Value → State → Outcome → State → Prop} {XC : String → State → State → Prop} {mc ms : Nat} {free : Addr → Prop} {bytes : ByteArray} {maxL : Nat} {ret : Option FieldType}
    (hM : vx_Met l y ws rm Pc Qc XC mc ms free) (hblind : FrameBlind Pc) (hrc : rm.cells = mc) (hrs : rm.slots = ms)
    (hframes : rm.frames + 1 ≤ R.frames) (hlocals : W9 + (maxL + 11) + rm.locals ≤ R.locals)
    (hws : ∀ w ∈ ws, ∀ a' U, s.WarmedH U.vm → w.before a' U = true) (hcode : Cond.code y bytes maxL ret ∈ ws) (hinit : ∀ a' U, s.WarmedH U.vm → (Cond.initialized y.cls).before a' U = true) :
    vx_Back l R p e below s sargs y len W9 (PreOf R mc ms Pc) (PostOf Qc mc ms free) (vx_Post XC mc ms free) := by
  intro m meth c A g ig mk a X hg hsize hdg hW hn hp
  have h1 : (headSpec ws rm).pre.before a A.U = true := atoms_intro fun w hw => hws w hw _ _ X.warmed
  have h2 : (Cond.code y bytes maxL ret).before a A.U = true := hws _ hcode _ _ X.warmed
  have h3 : (Cond.initialized y.cls).before a A.U = true := hinit _ _ X.warmed
  have h4 : A.cells + (headSpec ws rm).room.cells ≤ R.cells := by rw [show (headSpec ws rm).room.cells = mc from hrc]; exact hp.1
  have h5 : A.slots + (headSpec ws rm).room.slots ≤ R.slots := by rw [show (headSpec ws rm).room.slots = ms from hrs]; exact hp.2.1
  have hPc : Pc a (A.U.calling g mk a) := hblind _ _ _ _ hp.2.2
  obtain ⟨U, Ls, c0, s0⟩ := A
  dsimp only [Pt.U, Pt.locs, Pt.cells, Pt.slots] at h1 h2 h3 h4 h5 X hn hPc ⊢
  obtain ⟨methY, cY, hmY, hcY, -, hlY, -, -, -, -⟩ := Cond.code_spec hn h2
  obtain ⟨kY, hkY, -⟩ := className_of_methodNamed hn
  have hinitY : kY.init = .initialized := Cond.initialized_spec (findClass_of_methodNamed hn) hkY h3
  have h : At U g.method c below := by rw [hg]; exact X.here
  have hlocals9 : W9 + (maxL + 11) + (headSpec ws rm).room.locals ≤ R.locals := hlocals
  have happ : (headSpec ws rm).appliesLoose y e.platform (U.calling g mk a) = true :=
    Spec.appliesLoose_calling (g := g) h hdg hn hkY hinitY
      (X.room_calling (g := g) (R' := (headSpec ws rm).room) hsize hmY hcY hframes (by rw [hlY]; omega) h4 h5) h1
  obtain ⟨mid, hmid⟩ := h.above
  have hfr : (U.setTop g).frames = (.java g :: mid) ++ below := by rw [State.frames_setTop' g h.top, hmid]; rfl
  obtain ⟨o, s₂, hsteps, -, hend, hq⟩ := Steps.callFree hM p X.admits X.cas X.clock (acts := []) hfr happ hPc trivial
  have hq' : vx_Q Qc XC mc ms free a (U.calling g mk a) o s₂ := hq
  rw [State.frames_setTop' g h.top] at hend
  obtain ⟨g₀, hg0⟩ := Option.isSome_iff_exists.mp h.top
  obtain ⟨r, hr⟩ := State.topJava?_eq_some.mp hg0
  have hr' : (({ U with heap := s₂.heap, slotsUsed := s₂.slotsUsed } : State).setVm s₂.vm).frames = .java g₀ :: r := hr
  rcases hq' with ⟨hqc, L, hfe, hL⟩ | ⟨q, rfl, E, ce, L, hx, hce, hcv, hcl, hW₂, hsm, hL⟩
  · obtain ⟨⟨v, rfl⟩, hW₂, e2, q2, q3, q4, q5, q6⟩ := id hfe
    have e3 : s₂ = ({ (U.calling g mk a).setFrames s₂.frames with heap := s₂.heap, slotsUsed := s₂.slotsUsed } : State).setVm s₂.vm := by
      have : s₂ = ({ s₂ with vm := (U.calling g mk a).vm } : State).setVm s₂.vm := rfl
      rw [e2] at this
      exact this
    obtain ⟨c₂, i₂, len₂, hc₂, hd₂, hf₂⟩ := hend
    have hW' : U.WarmedH s₂.vm := hW₂
    have hcc : c₂ = c := by
      have h1 : s₂.code? g.method = U.code? g.method := by
        rw [State.code?_eq, State.code?_eq, hW'.alike.method?]
      exact Option.some.inj (hc₂.symm.trans (h1.trans h.code))
    subst hcc
    have hlen : len₂ = len := by rw [hdg] at hd₂; cases hd₂; rfl
    subst hlen
    have hs₂ : s₂ = (({ U with heap := s₂.heap, slotsUsed := s₂.slotsUsed } : State).setVm s₂.vm).setTop { g with pc := g.pc + len₂, stack := v.toList ++ g.stack } := by
      refine e3.trans ?_
      rw [hf₂, State.calling_eq h.top, State.setFrames_setFrames, State.setTop_of_frames _ hr', hr]
      rfl
    have hsame : U.sameButNew ({ U with heap := s₂.heap, slotsUsed := s₂.slotsUsed } : State) L mc ms := by
      refine ⟨?_, q2, q3, q4, q5, q6⟩
      obtain ⟨t, ht, -⟩ := State.frames_cons hr
      show ({ U with heap := s₂.heap, slotsUsed := s₂.slotsUsed } : State) = { U.setFrames U.frames with heap := s₂.heap, slotsUsed := s₂.slotsUsed }
      rw [State.setFrames_self ht]
    subst hg
    refine Or.inl ⟨v, ⟨(({ U with heap := s₂.heap, slotsUsed := s₂.slotsUsed } : State).setVm s₂.vm), Ls ++ L, c0 + mc, s0 + ms⟩,
      ⟨X.admits, X.cas, X.clock, X.frames, X.room, X.hears, X.method, X.code, (X.here.setHeapUsed s₂.heap s₂.slotsUsed).setVm hW'.alike, X.tail, State.WarmedH.trans X.warmed hW', X.limits, X.bytes, X.same.trans (hsame.setVm s.vm)⟩,
      ⟨g, mk, s₂, L, rfl, rfl, hqc, rfl, hL, rfl, rfl⟩, ?_⟩
    show Steps p.tables e below _ ((({ U with heap := s₂.heap, slotsUsed := s₂.slotsUsed } : State).setVm s₂.vm).setTop { g with pc := g.pc + len₂, stack := v.toList ++ g.stack })
    rw [← hs₂]
    exact hsteps
  · obtain ⟨e2, q2, q3, q4, q5, q6⟩ := id hsm
    have e3 : s₂ = ({ (U.calling g mk a).setFrames s₂.frames with heap := s₂.heap, slotsUsed := s₂.slotsUsed } : State).setVm s₂.vm := by
      have : s₂ = ({ s₂ with vm := (U.calling g mk a).vm } : State).setVm s₂.vm := rfl
      rw [e2] at this
      exact this
    have hf₂ : s₂.frames = .throwing q :: .java g :: U.frames.tail := hend
    have hW' : U.WarmedH s₂.vm := hW₂
    have hs₂ : s₂ = ((({ U with heap := s₂.heap, slotsUsed := s₂.slotsUsed } : State).setVm s₂.vm).setTop g).pushFrame (.throwing q) := by
      refine e3.trans ?_
      rw [hf₂, State.calling_eq h.top, State.setFrames_setFrames, State.pushFrame, State.frames_setTop _ hr', State.setTop_of_frames _ hr', State.setFrames_setFrames, hr]
      rfl
    have hsame : U.sameButNew ({ U with heap := s₂.heap, slotsUsed := s₂.slotsUsed } : State) L mc ms := by
      refine ⟨?_, q2, q3, q4, q5, q6⟩
      obtain ⟨t, ht, -⟩ := State.frames_cons hr
      show ({ U with heap := s₂.heap, slotsUsed := s₂.slotsUsed } : State) = { U.setFrames U.frames with heap := s₂.heap, slotsUsed := s₂.slotsUsed }
      rw [State.setFrames_self ht]
    subst hg
    refine Or.inr ⟨q, ⟨(({ U with heap := s₂.heap, slotsUsed := s₂.slotsUsed } : State).setVm s₂.vm), Ls ++ L, c0 + mc, s0 + ms⟩,
      ⟨X.admits, X.cas, X.clock, X.frames, X.room, X.hears, X.method, X.code, (X.here.setHeapUsed s₂.heap s₂.slotsUsed).setVm hW'.alike, X.tail, State.WarmedH.trans X.warmed hW', X.limits, X.bytes, X.same.trans (hsame.setVm s.vm)⟩,
      ⟨g, mk, s₂, L, E, ce, rfl, rfl, hx, hce, hcv, hcl, rfl, hL, rfl, rfl⟩, ?_⟩
    show Steps p.tables e below _ (((({ U with heap := s₂.heap, slotsUsed := s₂.slotsUsed } : State).setVm s₂.vm).setTop g).pushFrame (.throwing q))
    rw [← hs₂]
    exact hsteps
end Payer
section Calls
variable {p : Program} {l : Launch} {e : Env} {R : Room} {s : State} {m : MethodId} {args : Array Value} {below : List Frame} {meth : Method} {c : Code} {T : State} {locs : List Loc} {cells slots : Nat}
theorem vx_callV (X : Stand p l e R s m args below meth c T locs cells slots) (hexec : p.tables.exec = Jvm.exec) {own C : String} {index : Nat} {y : MethodName} {bytes : ByteArray} {maxL : Nat} {ret : Option FieldType}
    (hown : s.vm.findClass own = some m.cls) (hlink : (Cond.methodLink own index y).before args s = true) (hinst : (Cond.instanceMethod y).before args s = true) (hsel : (Cond.selects C y y).before args s = true)
    (hcode : (Cond.code y bytes maxL ret).before args s = true) (hy : y.cls ≠ "java/lang/invoke/MethodHandle" ∧ y.cls ≠ "java/lang/invoke/VarHandle")
    {W9 : Nat} {Pre : Pt → Array Value → Prop} {Post : Pt → Array Value → Option Value → Pt → Prop} {PostX : Pt → Array Value → Addr → Pt → Prop} (hK : vx_Back l R p e below s args y 3 W9 Pre Post PostX)
    {b : Addr} {cellB : Cell} (hcell : T.heap[b]? = some cellB) (hobj : cellB.vm.isStatics = false) (hcls : s.vm.findClass C = some cellB.cls)
    {g : JFrame} (hg : g.method = m) (hsize : g.locals.size = c.maxLocals) {argsL rest : List Value} (hlen : ∀ sig, parseMethodDescriptor y.desc = some sig → argsL.length = sig.parameters.length)
    (hstack : g.stack = argsL.reverse ++ .ref b :: rest) (hW : 2 * g.monitorRoom + (rest.map fun v => v.category).sum ≤ W9) (hdg : decode c.code g.pc = .ok (.invokevirtual index, 3))
    (hpre : ∀ vm₁, s.WarmedH vm₁ → Pre ⟨T.setVm vm₁, locs, cells, slots⟩ (Value.ref b :: argsL).toArray) :
    (∃ (v : Option Value) (vm₁ : Vm) (B : Pt), s.WarmedH vm₁ ∧ Stand p l e R s m args below meth c B.U B.locs B.cells B.slots ∧ Post ⟨T.setVm vm₁, locs, cells, slots⟩ (Value.ref b :: argsL).toArray v B ∧
      ∀ target, Steps p.tables e below (B.U.setTop { g with pc := g.pc + 3, stack := v.toList ++ rest }) target → Steps p.tables e below (T.setTop g) target) ∨
    (∃ (q : Addr) (vm₁ : Vm) (B : Pt), s.WarmedH vm₁ ∧ Stand p l e R s m args below meth c B.U B.locs B.cells B.slots ∧ PostX ⟨T.setVm vm₁, locs, cells, slots⟩ (Value.ref b :: argsL).toArray q B ∧
      Steps p.tables e below (T.setTop g) ((B.U.setTop { g with stack := rest }).pushFrame (.throwing q))) := by
  obtain ⟨mk, methM, hnamed, hmethM, hstM, habM⟩ := Cond.instanceMethod_spec hinst
  obtain ⟨methM', cM, hmethM', -, -, -, -, -, -, hsigM⟩ := Cond.code_spec hnamed hcode
  cases hmethM.symm.trans hmethM'
  obtain ⟨c2, r2, m2, q1, q2, q3, q4, kP, hkP, hkPi⟩ := Cond.selects_spec hsel
  cases hcls.symm.trans q1
  cases (State.methodFound?_of_named hnamed hy).symm.trans q2
  cases hnamed.symm.trans q3
  have hselP : selectMethod e.platform s.vm cellB.cls mk = .method mk := by rw [Launch.admits_selectMethod X.admits]; exact q4
  obtain ⟨vm₁, X₁, hstep₁⟩ := X.invokevirtual hexec hown hlink hnamed hmethM hstM hkP hkPi hy (a := b) (cell := cellB) hcell
    (fun z h => by rw [h] at hobj; cases hobj) hselP hmethM habM hkP hkPi (g := g) hg (argsL := argsL) (rest := rest) (hlen _ hsigM) hstack hdg
  rcases hK m meth c ⟨T.setVm vm₁, locs, cells, slots⟩ { g with stack := rest } (.invokevirtual index) mk (Value.ref b :: argsL).toArray X₁ hg hsize hdg hW (X₁.named hnamed) (hpre vm₁ X₁.warmed) with ⟨v, B, X', hpost, hsteps⟩ | ⟨q, B, X', hpost, hsteps⟩
  · exact Or.inl ⟨v, vm₁, B, X₁.warmed, X', hpost, fun target h => hstep₁ _ fun acts => by rw [doInvoke_state]; exact hsteps.trans h⟩
  · exact Or.inr ⟨q, vm₁, B, X₁.warmed, X', hpost, hstep₁ _ fun acts => by rw [doInvoke_state]; exact hsteps⟩
theorem vx_callS (X : Stand p l e R s m args below meth c T locs cells slots) (hexec : p.tables.exec = Jvm.exec) {own : String} {index : Nat} {y : MethodName} {bytes : ByteArray} {maxL : Nat} {ret : Option FieldType}
    (hown : s.vm.findClass own = some m.cls) (hlink : (Cond.methodLink own index y).before args s = true) (hstat : (Cond.static y).before args s = true) (hinit : (Cond.initialized y.cls).before args s = true)
    (hcode : (Cond.code y bytes maxL ret).before args s = true) (hy : y.cls ≠ "java/lang/invoke/MethodHandle" ∧ y.cls ≠ "java/lang/invoke/VarHandle")
    {W9 : Nat} {Pre : Pt → Array Value → Prop} {Post : Pt → Array Value → Option Value → Pt → Prop} {PostX : Pt → Array Value → Addr → Pt → Prop} (hK : vx_Back l R p e below s args y 3 W9 Pre Post PostX)
    {g : JFrame} (hg : g.method = m) (hsize : g.locals.size = c.maxLocals) {argsL rest : List Value} (hlen : ∀ sig, parseMethodDescriptor y.desc = some sig → argsL.length = sig.parameters.length)
    (hstack : g.stack = argsL.reverse ++ rest) (hW : 2 * g.monitorRoom + (rest.map fun v => v.category).sum ≤ W9) (hdg : decode c.code g.pc = .ok (.invokestatic index, 3))
    (hpre : ∀ vm₁, s.WarmedH vm₁ → Pre ⟨T.setVm vm₁, locs, cells, slots⟩ argsL.toArray) :
    (∃ (v : Option Value) (vm₁ : Vm) (B : Pt), s.WarmedH vm₁ ∧ Stand p l e R s m args below meth c B.U B.locs B.cells B.slots ∧ Post ⟨T.setVm vm₁, locs, cells, slots⟩ argsL.toArray v B ∧
      ∀ target, Steps p.tables e below (B.U.setTop { g with pc := g.pc + 3, stack := v.toList ++ rest }) target → Steps p.tables e below (T.setTop g) target) ∨
    (∃ (q : Addr) (vm₁ : Vm) (B : Pt), s.WarmedH vm₁ ∧ Stand p l e R s m args below meth c B.U B.locs B.cells B.slots ∧ PostX ⟨T.setVm vm₁, locs, cells, slots⟩ argsL.toArray q B ∧
      Steps p.tables e below (T.setTop g) ((B.U.setTop { g with stack := rest }).pushFrame (.throwing q))) := by
  obtain ⟨mk, hnamed⟩ := Cond.code_named hcode
  obtain ⟨methM, cM, hmethM, -, -, -, -, -, -, hsigM⟩ := Cond.code_spec hnamed hcode
  have hstatic : methM.isStatic = true := Cond.static_spec hnamed hmethM hstat
  obtain ⟨kP, hkP, -⟩ := className_of_methodNamed hnamed
  have hinitP : kP.init = .initialized := Cond.initialized_spec (findClass_of_methodNamed hnamed) hkP hinit
  obtain ⟨vm₁, X₁, hstep₁⟩ := X.invokestatic hexec hown hlink hnamed hmethM hstatic hkP hinitP hy (g := g) hg (argsL := argsL) (rest := rest) (hlen _ hsigM) hstack hdg
  rcases hK m meth c ⟨T.setVm vm₁, locs, cells, slots⟩ { g with stack := rest } (.invokestatic index) mk argsL.toArray X₁ hg hsize hdg hW (X₁.named hnamed) (hpre vm₁ X₁.warmed) with ⟨v, B, X', hpost, hsteps⟩ | ⟨q, B, X', hpost, hsteps⟩
  · exact Or.inl ⟨v, vm₁, B, X₁.warmed, X', hpost, fun target h => hstep₁ _ fun acts => by rw [doInvoke_state]; exact hsteps.trans h⟩
  · exact Or.inr ⟨q, vm₁, B, X₁.warmed, X', hpost, hstep₁ _ fun acts => by rw [doInvoke_state]; exact hsteps⟩
end Calls
theorem vx_cls {s : State} {T : State} {vm₁ : Vm} {E : String} {k : ClassId} (hW : s.WarmedH vm₁) (h : (T.setVm vm₁).vm.findClass E = some k) : s.vm.findClass E = some k := by
  have h1 : vm₁.findClass E = some k := h
  rw [hW.alike.findClass] at h1
  exact h1
/-- the method's frame g, with q thrown over it -/
def vx_W (p : Program) (l : Launch) (e : Env) (R : Room) (s : State) (m : MethodId) (args : Array Value) (below : List Frame) (meth : Method) (c : Code) (H : Heap) (locs : List Loc) (cells slots : Nat) (Q : State → Prop) (g : JFrame) (q : Addr) : Prop :=
  ∀ T : State, T.heap = H → Stand p l e R s m args below meth c T locs cells slots → ∃ t, Steps p.tables e below ((T.setTop g).pushFrame (.throwing q)) t ∧ Q t
def vx_Run (p : Program) (l : Launch) (e : Env) (R : Room) (s : State) (m : MethodId) (args : Array Value) (below : List Frame) (meth : Method) (c : Code) (H : Heap) (locs : List Loc) (cells slots mc ms : Nat) (g : JFrame) (rest : List Value) (Qa : State → Outcome → State → Prop) (XC : String → State → State → Prop) (free : Addr → Prop) : Prop :=
  ∀ T : State, T.heap = H → Stand p l e R s m args below meth c T locs cells slots →
    (∃ (v : Option Value) (st₀ t T' : State) (L : List Loc), st₀.heap = H ∧ Stand p l e R s m args below meth c T' (locs ++ L) (cells + mc) (slots + ms) ∧ (∀ q ∈ L, free q.base) ∧ T'.heap = t.heap ∧ T'.vm = t.vm ∧ Qa st₀ (.returned v) t ∧
      Goes p e below T g T' { g with pc := g.pc + 3, stack := v.toList ++ rest }) ∨
    (∃ (q : Addr) (st₀ t T' : State) (L : List Loc) (E : String) (ce : Cell), st₀.heap = H ∧ Stand p l e R s m args below meth c T' (locs ++ L) (cells + mc) (slots + ms) ∧ (∀ z ∈ L, free z.base) ∧ T'.heap = t.heap ∧ T'.vm = t.vm ∧ XC E st₀ t ∧ t.heap[q]? = some ce ∧ ce.vm = .none ∧ s.vm.findClass E = some ce.cls ∧
      Steps p.tables e below (T.setTop g) ((T'.setTop { g with stack := rest }).pushFrame (.throwing q)))
def vx_X {S : Type} (px : S → Prop) (B : String → S → State → Prop) (A : Nat → Prop) : String → State → State → Prop := fun E st t => ∃ u : S, px u ∧ B E u t ∧ va_F A st t
section Runs
variable {p : Program} {l : Launch} {e : Env} {R : Room} {s : State} {m : MethodId} {args : Array Value} {below : List Frame} {meth : Method} {c : Code} {H : Heap} {locs : List Loc} {cells slots : Nat}
variable {y : MethodName} {bytes cc : ByteArray} {maxL nL mc ms n index : Nat} {ret : Option FieldType} {ws : List Cond} {rm : Room} {Pc : Array Value → State → Prop} {Qc : Array Value → State → Outcome → State → Prop} {XC : String → State → State → Prop} {free : Addr → Prop} {Ts : List Cond} {own C : String} {b : Addr} {As rest : List Value} {g : JFrame}
theorem vx_callBack (cb : CallB R s args own index y bytes maxL ret ws rm mc ms n) (hM : vx_Met l y ws rm Pc Qc XC mc ms free) (hbl : FrameBlind Pc) : vx_Back l R p e below s args y 3 8 (PreOf R mc ms Pc) (PostOf Qc mc ms free) (vx_Post XC mc ms free) := by
  obtain ⟨hrc, hrs, hfr, hlo, hws, hcw, -, hini, -⟩ := cb
  exact vx_back (bytes := bytes) (maxL := maxL) (ret := ret) hM hbl hrc hrs hfr hlo hws hcw (fun a' U hW => word_at hW (Or.inl (by first | rfl | simp [Cond.onTables, Cond.keeps, Cond.steady])) hini)
theorem vx_runV (S : CallFix p m c cc nL s args Ts own) (hM : vx_Met l y ws rm Pc Qc XC mc ms free) (cw : CallW R s args own C index y bytes maxL ret ws rm mc ms n) (hp : PreV s H C b Pc As)
    (hg : g.method = m) (hn : As.length = n) (hsize : g.locals.size = nL) (hstack : g.stack = As.reverse ++ .ref b :: rest) (hW : 2 * g.monitorRoom + (rest.map fun v => v.category).sum ≤ 8) (hdg : decode cc g.pc = .ok (.invokevirtual index, 3)) (hf : cells + mc ≤ R.cells ∧ slots + ms ≤ R.slots) :
    vx_Run p l e R s m args below meth c H locs cells slots mc ms g rest (Qc (Value.ref b :: As).toArray) XC free := by
  have hK : vx_Back l R p e below s args y 3 8 (PreOf R mc ms Pc) (PostOf Qc mc ms free) (vx_Post XC mc ms free) := vx_callBack cw.1 hM hp.1
  obtain ⟨⟨-, -, -, -, -, -, hcode, -, hy, hlen, hl⟩, hin, hse⟩ := cw
  obtain ⟨hx, hb, hml, ho, -⟩ := S
  obtain ⟨-, ⟨cellB, hcB, hoB, hclB⟩, hPc⟩ := hp
  intro T hT X
  rcases vx_callV X hx (C := C) (bytes := bytes) (maxL := maxL) (ret := ret) ho hl hin hse hcode hy hK (by rw [hT]; exact hcB) hoB hclB hg (hsize.trans hml.symm) (argsL := As) (rest := rest) (fun sig h => hn.trans (hlen sig h)) hstack hW (by rw [hb]; exact hdg)
    (fun vm₁ hW₁ => ⟨hf.1, hf.2, hPc (T.setVm vm₁) hT hW₁⟩) with ⟨v, vm₁, ⟨U', l2, c2, s2⟩, hW₁, X', ⟨g', mk, t, L, e1, e2, hq, h1, hL, h2, h3⟩, st⟩ | ⟨q, vm₁, ⟨U', l2, c2, s2⟩, hW₁, X', ⟨g', mk, t, L, E, ce, e1, e2, hq, hce, hcv, hcl, h1, hL, h2, h3⟩, st⟩
  · dsimp only [Pt.U, Pt.locs, Pt.cells, Pt.slots] at X' e1 e2 h1 h2 h3 st
    subst h1; subst h2; subst h3
    exact Or.inl ⟨v, (T.setVm vm₁).calling g' mk (Value.ref b :: As).toArray, t, U', L, hT, X', hL, e1, e2, hq, st⟩
  · dsimp only [Pt.U, Pt.locs, Pt.cells, Pt.slots] at X' e1 e2 h1 h2 h3 st hcl
    subst h1; subst h2; subst h3
    exact Or.inr ⟨q, (T.setVm vm₁).calling g' mk (Value.ref b :: As).toArray, t, U', L, E, ce, hT, X', hL, e1, e2, hq, hce, hcv, vx_cls hW₁ hcl, st⟩
theorem vx_runS (S : CallFix p m c cc nL s args Ts own) (hM : vx_Met l y ws rm Pc Qc XC mc ms free) (cw : CallB R s args own index y bytes maxL ret ws rm mc ms n ∧ (Cond.static y).before args s = true) (hp : PreS s H Pc As)
    (hg : g.method = m) (hn : As.length = n) (hsize : g.locals.size = nL) (hstack : g.stack = As.reverse ++ rest) (hW : 2 * g.monitorRoom + (rest.map fun v => v.category).sum ≤ 8) (hdg : decode cc g.pc = .ok (.invokestatic index, 3)) (hf : cells + mc ≤ R.cells ∧ slots + ms ≤ R.slots) :
    vx_Run p l e R s m args below meth c H locs cells slots mc ms g rest (Qc As.toArray) XC free := by
  have hK : vx_Back l R p e below s args y 3 8 (PreOf R mc ms Pc) (PostOf Qc mc ms free) (vx_Post XC mc ms free) := vx_callBack cw.1 hM hp.1
  obtain ⟨⟨-, -, -, -, -, -, hcode, hini, hy, hlen, hl⟩, hstt⟩ := cw
  obtain ⟨hx, hb, hml, ho, -⟩ := S
  intro T hT X
  rcases vx_callS X hx (bytes := bytes) (maxL := maxL) (ret := ret) ho hl hstt hini hcode hy hK hg (hsize.trans hml.symm) (argsL := As) (rest := rest) (fun sig h => hn.trans (hlen sig h)) hstack hW (by rw [hb]; exact hdg)
    (fun vm₁ hW₁ => ⟨hf.1, hf.2, hp.2 (T.setVm vm₁) hT hW₁⟩) with ⟨v, vm₁, ⟨U', l2, c2, s2⟩, hW₁, X', ⟨g', mk, t, L, e1, e2, hq, h1, hL, h2, h3⟩, st⟩ | ⟨q, vm₁, ⟨U', l2, c2, s2⟩, hW₁, X', ⟨g', mk, t, L, E, ce, e1, e2, hq, hce, hcv, hcl, h1, hL, h2, h3⟩, st⟩
  · dsimp only [Pt.U, Pt.locs, Pt.cells, Pt.slots] at X' e1 e2 h1 h2 h3 st
    subst h1; subst h2; subst h3
    exact Or.inl ⟨v, (T.setVm vm₁).calling g' mk As.toArray, t, U', L, hT, X', hL, e1, e2, hq, st⟩
  · dsimp only [Pt.U, Pt.locs, Pt.cells, Pt.slots] at X' e1 e2 h1 h2 h3 st hcl
    subst h1; subst h2; subst h3
    exact Or.inr ⟨q, (T.setVm vm₁).calling g' mk As.toArray, t, U', L, E, ce, hT, X', hL, e1, e2, hq, hce, hcv, vx_cls hW₁ hcl, st⟩
end Runs
section Rows
variable {p : Program} {l : Launch} {e : Env} {R : Room} {s : State} {m : MethodId} {args : Array Value} {below : List Frame} {meth : Method} {c : Code} {H : Heap} {locs : List Loc} {cells slots : Nat} {Q : State → Prop}
variable {mc ms : Nat} {free : Addr → Prop} {A0 A1 : Nat → Prop} {H0 : Heap} {a : Array Value} {pc : Nat} {ls : Array Slot} {st0 rest : List Value}
theorem vx_keep {st₀ t T' : State} {L : List Loc} (h0 : st₀.heap = H) (e1 : T'.heap = t.heap) (hS : va_S A0 H0 H locs) (hA : ∀ q, q < H.size → A1 q → A0 q) (hf : ∀ q, free q → A0 q) (hL : ∀ q ∈ L, free q.base) (hF : va_F A1 st₀ t) :
    H.size ≤ T'.heap.size ∧ (∀ q : Nat, q < H.size → ¬ A1 q → T'.heap[q]? = H[q]?) ∧ va_S A0 H0 T'.heap (locs ++ L) := by
  obtain ⟨hz, hk⟩ := hF
  rw [h0] at hz hk
  exact ⟨by rw [e1]; exact hz, fun q h1 h2 => by rw [e1]; exact hk q h1 h2,
    ⟨Nat.le_trans hS.1 (by rw [e1]; exact hz), fun q h1 h2 => by rw [e1, hk q (Nat.lt_of_lt_of_le h1 hS.1) (fun z => h2 (hA q (Nat.lt_of_lt_of_le h1 hS.1) z))]; exact hS.2.1 q h1 h2, fun q hq => by
      rcases List.mem_append.mp hq with h | h
      · exact hS.2.2 q h
      · exact hf _ (hL q h)⟩⟩
theorem vx_calli {S SX : Type} {post : Int32 → S → Prop} {px : SX → Prop} {B : S → State → Prop} {BX : String → SX → State → Prop} {AX : Nat → Prop} (hr : vx_Run p l e R s m args below meth c H locs cells slots mc ms (F0 m pc ls st0) rest (va_Qi post B A1 a) (vx_X px BX AX) free) (hS : va_S A0 H0 H locs) (hA : ∀ q, q < H.size → A1 q → A0 q) (hf : ∀ q, free q → A0 q) (hAX : ∀ q, q < H.size → AX q → A0 q)
    (kx : ∀ (E : String) (ce : Cell) (q9 : Addr) (u : SX) (t : State) (H1 : Heap) (locs1 : List Loc), t.heap = H1 → s.vm.Alike t.vm → px u → BX E u t → H.size ≤ H1.size → (∀ q : Nat, q < H.size → ¬ AX q → H1[q]? = H[q]?) → va_S A0 H0 H1 locs1 → H1[q9]? = some ce → ce.vm = .none → s.vm.findClass E = some ce.cls → vx_W p l e R s m args below meth c H1 locs1 (cells + mc) (slots + ms) Q (F0 m pc ls rest) q9)
    (kk : ∀ (r : Int32) (u : S) (t : State) (H1 : Heap) (locs1 : List Loc), t.heap = H1 → s.vm.Alike t.vm → post r u → B u t → H.size ≤ H1.size → (∀ q : Nat, q < H.size → ¬ A1 q → H1[q]? = H[q]?) → va_S A0 H0 H1 locs1 → W p l e R s m args below meth c H1 locs1 (cells + mc) (slots + ms) Q (F0 m (pc + 3) ls (.int r :: rest))) : W p l e R s m args below meth c H locs cells slots Q (F0 m pc ls st0) := by
  intro T hT X
  rcases hr T hT X with ⟨v, st₀, t, T', L, h0, X', hL, e1, e2, ⟨⟨r, u, hv, hp, hb⟩, hF⟩, st⟩ | ⟨q, st₀, t, T', L, E, ce, h0, X', hL, e1, e2, ⟨u, hp, hb, hF⟩, hce, hcv, hcl, st⟩
  · cases hv
    obtain ⟨k1, k2, k3⟩ := vx_keep h0 e1 hS hA hf hL hF
    obtain ⟨t2, a1, b1⟩ := kk r u t T'.heap (locs ++ L) e1.symm (by rw [← e2]; exact X'.warmed.alike) hp hb k1 k2 k3 T' rfl X'
    exact ⟨t2, st t2 a1, b1⟩
  · obtain ⟨k1, k2, k3⟩ := vx_keep h0 e1 hS hAX hf hL hF
    obtain ⟨t2, a1, b1⟩ := kx E ce q u t T'.heap (locs ++ L) e1.symm (by rw [← e2]; exact X'.warmed.alike) hp hb k1 k2 k3 (by rw [e1]; exact hce) hcv hcl T' rfl X'
    exact ⟨t2, st.trans a1, b1⟩
theorem vx_calll {S SX : Type} {post : Int64 → S → Prop} {px : SX → Prop} {B : S → State → Prop} {BX : String → SX → State → Prop} {AX : Nat → Prop} (hr : vx_Run p l e R s m args below meth c H locs cells slots mc ms (F0 m pc ls st0) rest (va_Ql post B A1 a) (vx_X px BX AX) free) (hS : va_S A0 H0 H locs) (hA : ∀ q, q < H.size → A1 q → A0 q) (hf : ∀ q, free q → A0 q) (hAX : ∀ q, q < H.size → AX q → A0 q)
    (kx : ∀ (E : String) (ce : Cell) (q9 : Addr) (u : SX) (t : State) (H1 : Heap) (locs1 : List Loc), t.heap = H1 → s.vm.Alike t.vm → px u → BX E u t → H.size ≤ H1.size → (∀ q : Nat, q < H.size → ¬ AX q → H1[q]? = H[q]?) → va_S A0 H0 H1 locs1 → H1[q9]? = some ce → ce.vm = .none → s.vm.findClass E = some ce.cls → vx_W p l e R s m args below meth c H1 locs1 (cells + mc) (slots + ms) Q (F0 m pc ls rest) q9)
    (kk : ∀ (r : Int64) (u : S) (t : State) (H1 : Heap) (locs1 : List Loc), t.heap = H1 → s.vm.Alike t.vm → post r u → B u t → H.size ≤ H1.size → (∀ q : Nat, q < H.size → ¬ A1 q → H1[q]? = H[q]?) → va_S A0 H0 H1 locs1 → W p l e R s m args below meth c H1 locs1 (cells + mc) (slots + ms) Q (F0 m (pc + 3) ls (.long r :: rest))) : W p l e R s m args below meth c H locs cells slots Q (F0 m pc ls st0) := by
  intro T hT X
  rcases hr T hT X with ⟨v, st₀, t, T', L, h0, X', hL, e1, e2, ⟨⟨r, u, hv, hp, hb⟩, hF⟩, st⟩ | ⟨q, st₀, t, T', L, E, ce, h0, X', hL, e1, e2, ⟨u, hp, hb, hF⟩, hce, hcv, hcl, st⟩
  · cases hv
    obtain ⟨k1, k2, k3⟩ := vx_keep h0 e1 hS hA hf hL hF
    obtain ⟨t2, a1, b1⟩ := kk r u t T'.heap (locs ++ L) e1.symm (by rw [← e2]; exact X'.warmed.alike) hp hb k1 k2 k3 T' rfl X'
    exact ⟨t2, st t2 a1, b1⟩
  · obtain ⟨k1, k2, k3⟩ := vx_keep h0 e1 hS hAX hf hL hF
    obtain ⟨t2, a1, b1⟩ := kx E ce q u t T'.heap (locs ++ L) e1.symm (by rw [← e2]; exact X'.warmed.alike) hp hb k1 k2 k3 (by rw [e1]; exact hce) hcv hcl T' rfl X'
    exact ⟨t2, st.trans a1, b1⟩
theorem vx_callf {S SX : Type} {post : UInt32 → S → Prop} {px : SX → Prop} {B : S → State → Prop} {BX : String → SX → State → Prop} {AX : Nat → Prop} (hr : vx_Run p l e R s m args below meth c H locs cells slots mc ms (F0 m pc ls st0) rest (va_Qf post B A1 a) (vx_X px BX AX) free) (hS : va_S A0 H0 H locs) (hA : ∀ q, q < H.size → A1 q → A0 q) (hf : ∀ q, free q → A0 q) (hAX : ∀ q, q < H.size → AX q → A0 q)
    (kx : ∀ (E : String) (ce : Cell) (q9 : Addr) (u : SX) (t : State) (H1 : Heap) (locs1 : List Loc), t.heap = H1 → s.vm.Alike t.vm → px u → BX E u t → H.size ≤ H1.size → (∀ q : Nat, q < H.size → ¬ AX q → H1[q]? = H[q]?) → va_S A0 H0 H1 locs1 → H1[q9]? = some ce → ce.vm = .none → s.vm.findClass E = some ce.cls → vx_W p l e R s m args below meth c H1 locs1 (cells + mc) (slots + ms) Q (F0 m pc ls rest) q9)
    (kk : ∀ (r : UInt32) (u : S) (t : State) (H1 : Heap) (locs1 : List Loc), t.heap = H1 → s.vm.Alike t.vm → post r u → B u t → H.size ≤ H1.size → (∀ q : Nat, q < H.size → ¬ A1 q → H1[q]? = H[q]?) → va_S A0 H0 H1 locs1 → W p l e R s m args below meth c H1 locs1 (cells + mc) (slots + ms) Q (F0 m (pc + 3) ls (.float r :: rest))) : W p l e R s m args below meth c H locs cells slots Q (F0 m pc ls st0) := by
  intro T hT X
  rcases hr T hT X with ⟨v, st₀, t, T', L, h0, X', hL, e1, e2, ⟨⟨r, u, hv, hp, hb⟩, hF⟩, st⟩ | ⟨q, st₀, t, T', L, E, ce, h0, X', hL, e1, e2, ⟨u, hp, hb, hF⟩, hce, hcv, hcl, st⟩
  · cases hv
    obtain ⟨k1, k2, k3⟩ := vx_keep h0 e1 hS hA hf hL hF
    obtain ⟨t2, a1, b1⟩ := kk r u t T'.heap (locs ++ L) e1.symm (by rw [← e2]; exact X'.warmed.alike) hp hb k1 k2 k3 T' rfl X'
    exact ⟨t2, st t2 a1, b1⟩
  · obtain ⟨k1, k2, k3⟩ := vx_keep h0 e1 hS hAX hf hL hF
    obtain ⟨t2, a1, b1⟩ := kx E ce q u t T'.heap (locs ++ L) e1.symm (by rw [← e2]; exact X'.warmed.alike) hp hb k1 k2 k3 (by rw [e1]; exact hce) hcv hcl T' rfl X'
    exact ⟨t2, st.trans a1, b1⟩
theorem vx_calld {S SX : Type} {post : UInt64 → S → Prop} {px : SX → Prop} {B : S → State → Prop} {BX : String → SX → State → Prop} {AX : Nat → Prop} (hr : vx_Run p l e R s m args below meth c H locs cells slots mc ms (F0 m pc ls st0) rest (va_Qd post B A1 a) (vx_X px BX AX) free) (hS : va_S A0 H0 H locs) (hA : ∀ q, q < H.size → A1 q → A0 q) (hf : ∀ q, free q → A0 q) (hAX : ∀ q, q < H.size → AX q → A0 q)
    (kx : ∀ (E : String) (ce : Cell) (q9 : Addr) (u : SX) (t : State) (H1 : Heap) (locs1 : List Loc), t.heap = H1 → s.vm.Alike t.vm → px u → BX E u t → H.size ≤ H1.size → (∀ q : Nat, q < H.size → ¬ AX q → H1[q]? = H[q]?) → va_S A0 H0 H1 locs1 → H1[q9]? = some ce → ce.vm = .none → s.vm.findClass E = some ce.cls → vx_W p l e R s m args below meth c H1 locs1 (cells + mc) (slots + ms) Q (F0 m pc ls rest) q9)
    (kk : ∀ (r : UInt64) (u : S) (t : State) (H1 : Heap) (locs1 : List Loc), t.heap = H1 → s.vm.Alike t.vm → post r u → B u t → H.size ≤ H1.size → (∀ q : Nat, q < H.size → ¬ A1 q → H1[q]? = H[q]?) → va_S A0 H0 H1 locs1 → W p l e R s m args below meth c H1 locs1 (cells + mc) (slots + ms) Q (F0 m (pc + 3) ls (.double r :: rest))) : W p l e R s m args below meth c H locs cells slots Q (F0 m pc ls st0) := by
  intro T hT X
  rcases hr T hT X with ⟨v, st₀, t, T', L, h0, X', hL, e1, e2, ⟨⟨r, u, hv, hp, hb⟩, hF⟩, st⟩ | ⟨q, st₀, t, T', L, E, ce, h0, X', hL, e1, e2, ⟨u, hp, hb, hF⟩, hce, hcv, hcl, st⟩
  · cases hv
    obtain ⟨k1, k2, k3⟩ := vx_keep h0 e1 hS hA hf hL hF
    obtain ⟨t2, a1, b1⟩ := kk r u t T'.heap (locs ++ L) e1.symm (by rw [← e2]; exact X'.warmed.alike) hp hb k1 k2 k3 T' rfl X'
    exact ⟨t2, st t2 a1, b1⟩
  · obtain ⟨k1, k2, k3⟩ := vx_keep h0 e1 hS hAX hf hL hF
    obtain ⟨t2, a1, b1⟩ := kx E ce q u t T'.heap (locs ++ L) e1.symm (by rw [← e2]; exact X'.warmed.alike) hp hb k1 k2 k3 (by rw [e1]; exact hce) hcv hcl T' rfl X'
    exact ⟨t2, st.trans a1, b1⟩
theorem vx_callv {S SX : Type} {post : S → Prop} {px : SX → Prop} {B : S → State → Prop} {BX : String → SX → State → Prop} {AX : Nat → Prop} (hr : vx_Run p l e R s m args below meth c H locs cells slots mc ms (F0 m pc ls st0) rest (va_Qv post B A1 a) (vx_X px BX AX) free) (hS : va_S A0 H0 H locs) (hA : ∀ q, q < H.size → A1 q → A0 q) (hf : ∀ q, free q → A0 q) (hAX : ∀ q, q < H.size → AX q → A0 q)
    (kx : ∀ (E : String) (ce : Cell) (q9 : Addr) (u : SX) (t : State) (H1 : Heap) (locs1 : List Loc), t.heap = H1 → s.vm.Alike t.vm → px u → BX E u t → H.size ≤ H1.size → (∀ q : Nat, q < H.size → ¬ AX q → H1[q]? = H[q]?) → va_S A0 H0 H1 locs1 → H1[q9]? = some ce → ce.vm = .none → s.vm.findClass E = some ce.cls → vx_W p l e R s m args below meth c H1 locs1 (cells + mc) (slots + ms) Q (F0 m pc ls rest) q9)
    (kk : ∀ (u : S) (t : State) (H1 : Heap) (locs1 : List Loc), t.heap = H1 → s.vm.Alike t.vm → post u → B u t → H.size ≤ H1.size → (∀ q : Nat, q < H.size → ¬ A1 q → H1[q]? = H[q]?) → va_S A0 H0 H1 locs1 → W p l e R s m args below meth c H1 locs1 (cells + mc) (slots + ms) Q (F0 m (pc + 3) ls (rest))) : W p l e R s m args below meth c H locs cells slots Q (F0 m pc ls st0) := by
  intro T hT X
  rcases hr T hT X with ⟨v, st₀, t, T', L, h0, X', hL, e1, e2, ⟨⟨u, hv, hp, hb⟩, hF⟩, st⟩ | ⟨q, st₀, t, T', L, E, ce, h0, X', hL, e1, e2, ⟨u, hp, hb, hF⟩, hce, hcv, hcl, st⟩
  · cases hv
    obtain ⟨k1, k2, k3⟩ := vx_keep h0 e1 hS hA hf hL hF
    obtain ⟨t2, a1, b1⟩ := kk u t T'.heap (locs ++ L) e1.symm (by rw [← e2]; exact X'.warmed.alike) hp hb k1 k2 k3 T' rfl X'
    exact ⟨t2, st t2 a1, b1⟩
  · obtain ⟨k1, k2, k3⟩ := vx_keep h0 e1 hS hAX hf hL hF
    obtain ⟨t2, a1, b1⟩ := kx E ce q u t T'.heap (locs ++ L) e1.symm (by rw [← e2]; exact X'.warmed.alike) hp hb k1 k2 k3 (by rw [e1]; exact hce) hcv hcl T' rfl X'
    exact ⟨t2, st.trans a1, b1⟩
/-- caught by the row x of this method's table; the rows ahead don't take it -/
theorem vx_catch {own name : String} {E : String} {ce : Cell} {q : Addr} (hown : s.vm.findClass own = some m.cls) (pre : List ExceptionTableEntry) (x : ExceptionTableEntry) (suf : List ExceptionTableEntry) (hsplit : c.exceptionTable.toList = pre ++ x :: suf)
    (hpass : ∀ z ∈ pre, covers z pc = false ∨ (z.catchType ≠ 0 ∧ ∃ nm : String, (Cond.classLink own z.catchType nm).before args s = true ∧ va_Nc E nm s)) (hx : covers x pc = true) (h0 : x.catchType ≠ 0)
    (hlink : (Cond.classLink own x.catchType name).before args s = true) (hcast : (Cond.castable E name).before args s = true) (hcell : H[q]? = some ce) (hv : ce.vm = .none) (hcl : s.vm.findClass E = some ce.cls)
    (kk : W p l e R s m args below meth c H locs cells slots Q (F0 m x.handlerPc ls [.ref q])) : vx_W p l e R s m args below meth c H locs cells slots Q (F0 m pc ls rest) q := by
  intro T hT X
  have hpl : e.platform.magicAccessors = ({} : Platform).magicAccessors := by rw [X.admits.platform]
  obtain ⟨c3, c4, hc3, hc4, hasg⟩ := Cond.castable_spec hcast
  cases Option.some.inj (hc3.symm.trans hcl)
  obtain ⟨c5, hc5, hcl5⟩ := Cond.classLink_spec hown hlink e.platform hpl
  cases Option.some.inj (hc4.symm.trans hc5)
  obtain ⟨vm', X', st⟩ := X.thenCaughtThrough q (g := F0 m pc ls rest) rfl (Steps.refl _) (by rw [hT]; exact hcell) (by rw [hv]; rfl) (by obtain ⟨k9, h9, -⟩ := Vm.findClass_spec hcl; exact ⟨k9, h9⟩) pre x suf hsplit
    (fun z hz => by
      rcases hpass z hz with h | ⟨hz0, nm, hl1, hn1⟩
      · exact Or.inl h
      · obtain ⟨c6, hc6, hcl6⟩ := Cond.classLink_spec hown hl1 e.platform hpl
        obtain ⟨a8, b8, h1, h2, h3⟩ := hn1
        cases Option.some.inj (h1.symm.trans hcl)
        cases Option.some.inj (h2.symm.trans hc6)
        exact Or.inr ⟨hz0, _, hcl6, h3⟩) hx (Or.inr ⟨h0, c4, hcl5, hasg⟩)
  obtain ⟨t, a1, b1⟩ := kk (T.setVm vm') hT X'
  exact ⟨t, st.trans a1, b1⟩
end Rows
section Ends
variable {p : Program} {l : Launch} {e : Env} {R : Room} {s : State} {m : MethodId} {args : Array Value} {below : List Frame} {meth : Method} {c : Code} {H : Heap} {locs : List Loc} {cells slots : Nat} {Q : State → Prop}
variable {mc ms : Nat} {free : Addr → Prop} {A0 A1 : Nat → Prop} {H0 : Heap} {a : Array Value} {ls : Array Slot} {st0 rest : List Value}
variable {Qc : Array Value → State → Outcome → State → Prop} {XC : String → State → State → Prop}
/-- what a body that may throw owes at its end -/
def vx_MQ (below : List Frame) (Qc : Array Value → State → Outcome → State → Prop) (XC : String → State → State → Prop) (a : Array Value) (s : State) (mc ms : Nat) (free : Addr → Prop) : State → Prop := fun t =>
  ∃ o, t.status = .running ∧ Ended t below o ∧ vx_Q Qc XC mc ms free a s o t
theorem vx_ret {g : JFrame} {mc ms : Nat} (k : W p l e R s m args below meth c H locs cells slots (MQ below Qc args s mc ms free) g) : W p l e R s m args below meth c H locs cells slots (vx_MQ below Qc XC args s mc ms free) g := by
  intro T hT X
  obtain ⟨t, a1, o, b1, b2, b3, b4⟩ := k T hT X
  exact ⟨t, a1, o, b1, b2, Or.inl ⟨b3, b4⟩⟩
/-- not caught here: it goes on to the caller -/
theorem vx_widen {g : JFrame} {q : Addr} {k n : Nat} (h1 : cells ≤ k) (h2 : slots ≤ n) (kk : vx_W p l e R s m args below meth c H locs k n Q g q) : vx_W p l e R s m args below meth c H locs cells slots Q g q := fun T hT X => kk T hT (stand_widen X h1 h2)
theorem vx_out {pc : Nat} {E : String} {ce : Cell} {q : Addr} {mc ms : Nat} (hout : ∀ x ∈ c.exceptionTable.toList, covers x pc = false) (hlocks : meth.locks = false) (hcell : H[q]? = some ce) (hv : ce.vm = .none) (hcl : s.vm.findClass E = some ce.cls)
    (hx : ∀ t : State, t.heap = H → s.vm.Alike t.vm → XC E s t) (hf : ∀ z ∈ locs, free z.base) (hc : cells ≤ mc) (hs : slots ≤ ms) :
    vx_W p l e R s m args below meth c H locs cells slots (vx_MQ below Qc XC args s mc ms free) (F0 m pc ls rest) q := by
  intro T hT X
  obtain ⟨st1, hrun, hend, hW, hsm⟩ := X.leaveThrown q (g := F0 m pc ls rest) rfl rfl rfl hout hlocks
  have hcell9 : (T.setFrames (.throwing q :: below)).heap[q]? = some ce := by
    show T.heap[q]? = some ce
    rw [hT]; exact hcell
  exact ⟨_, st1, .threw q, hrun, hend, Or.inr ⟨q, rfl, E, ce, locs, hx _ hT hW.alike, hcell9, hv, hcl, hW, hsm.mono hc hs, hf⟩⟩
theorem vx_frame {U : State} {k n : Nat} (h : s.sameButNew ({ U with vm := s.vm } : State) locs k n) : s.heap.size ≤ U.heap.size ∧ ∀ q : Nat, q < s.heap.size → (∀ z ∈ locs, z.base ≠ q) → U.heap[q]? = s.heap[q]? := by
  obtain ⟨-, h2, -, -, -, h6⟩ := h
  refine ⟨h2, fun q hq hz => ?_⟩
  obtain ⟨c9, e1, e2, e3, e4⟩ := h6 q _ (Array.getElem?_eq_getElem hq)
  have hs : c9.slots = (s.heap[q]).slots := Array.ext_getElem? fun i => e4 i fun hm => hz _ hm rfl
  have h9 : c9 = s.heap[q] := by
    rw [hs] at e2
    exact e2
  have e5 : U.heap[q]? = some c9 := e1
  rw [e5, h9, Array.getElem?_eq_getElem hq]
/-- the words of a throw but the four that speak of the heap -/
def vx_no (w : Cond) : Bool := decide (w ≠ .isRef (.static Bundle.tN "UNASSIGNED_STACK" Bundle.steD)) && decide (w ≠ .isRef (.static Bundle.tN "SUPPRESSED_SENTINEL" Bundle.listD)) && decide (w ≠ .laysStatic Bundle.tN "UNASSIGNED_STACK" Bundle.steD) && decide (w ≠ .laysStatic Bundle.tN "SUPPRESSED_SENTINEL" Bundle.listD)
def vx_at0 (own : String) (ic : Nat) (X : String) (names : List String) : List Cond := (Bundle.ownAtoms0 own ic X names).filter vx_no
def vx_atS (own : String) (ic : Nat) (X : String) (names : List String) : List Cond := (Bundle.ownAtoms own ic X names).filter vx_no
/-- a word that the tables alone decide, or a good one -/
def vx_ot (w : Cond) : Bool := w.onTables || goodWord w
theorem vx_ot_at {args a' : Array Value} {s U : State} {w : Cond} (hW : s.WarmedH U.vm) (hvm : s.vm = U.vm) (hg : vx_ot w = true) (h : w.before args s = true) : w.before a' U = true := by
  simp only [vx_ot, Bool.or_eq_true] at hg
  rcases hg with hg | hg
  · exact va_tabs hg hvm h
  · exact word_at hW (good_of_word hg) h
/-- a list's words: the good ones out of the method's own list, the others by premises of their own -/
theorem vx_hat {args : Array Value} {s : State} {L B : List Cond} (h1 : ∀ w ∈ L.filter goodWord, w.before args s = true) (h2 : ∀ w ∈ L.filter (fun w => !goodWord w), w ∈ B) (h3 : ∀ w ∈ B, w.before args s = true) : ∀ w ∈ L, w.before args s = true := by
  intro w hw
  by_cases g : goodWord w = true
  · exact h1 w (List.mem_filter.mpr ⟨hw, g⟩)
  · refine h3 w (h2 w (List.mem_filter.mpr ⟨hw, ?_⟩))
    show (!goodWord w) = true
    cases hgw : goodWord w
    · rfl
    · exact absurd hgw g
theorem vx_c {args : Array Value} {s : State} {w : Cond} {B : List Cond} (h : w.before args s = true) (t : ∀ w ∈ B, w.before args s = true) : ∀ w' ∈ w :: B, w'.before args s = true := fun w' h' => (List.mem_cons.mp h').elim (fun e => by rw [e]; exact h) (t w')
theorem vx_n {args : Array Value} {s : State} : ∀ w ∈ ([] : List Cond), w.before args s = true := fun _ h => nomatch h
theorem vx_own {args : Array Value} {s : State} {L : List Cond} (h1 : ∀ w ∈ L.filter vx_no, w.before args s = true)
    (hU : (Cond.isRef (.static Bundle.tN "UNASSIGNED_STACK" Bundle.steD)).before args s = true) (hN : (Cond.isRef (.static Bundle.tN "SUPPRESSED_SENTINEL" Bundle.listD)).before args s = true)
    (lU : (Cond.laysStatic Bundle.tN "UNASSIGNED_STACK" Bundle.steD).before args s = true) (lN : (Cond.laysStatic Bundle.tN "SUPPRESSED_SENTINEL" Bundle.listD).before args s = true) : ∀ w ∈ L, w.before args s = true := by
  intro w hw
  by_cases e1 : w = .isRef (.static Bundle.tN "UNASSIGNED_STACK" Bundle.steD)
  · rw [e1]; exact hU
  · by_cases e2 : w = .isRef (.static Bundle.tN "SUPPRESSED_SENTINEL" Bundle.listD)
    · rw [e2]; exact hN
    · by_cases e3 : w = .laysStatic Bundle.tN "UNASSIGNED_STACK" Bundle.steD
      · rw [e3]; exact lU
      · by_cases e4 : w = .laysStatic Bundle.tN "SUPPRESSED_SENTINEL" Bundle.listD
        · rw [e4]; exact lN
        · exact h1 w (List.mem_filter.mpr ⟨hw, by unfold vx_no; rw [decide_eq_true e1, decide_eq_true e2, decide_eq_true e3, decide_eq_true e4]; rfl⟩)
/-- where a static field lies, its class's statics cell in H -/
def vx_L (C n d : String) (A : Nat → Prop) (U : State) (H : Heap) : Prop := ∃ (c : ClassId) (k : Class) (i : Nat) (f : Field) (a : Nat) (cell : Cell), U.vm.findClass C = some c ∧ U.fieldFound? C n d = some (c, k, i, f) ∧ f.isStatic = true ∧ k.statics = some a ∧ H[a]? = some cell ∧ cell.vm.isStatics = true ∧ cell.cls = c ∧ f.slot < cell.slots.size ∧ k.staticTypes[f.slot]? = some f.type ∧ ¬ A a
theorem vx_L.moved {C n d : String} {A : Nat → Prop} {u U : State} {H : Heap} (hvm : u.vm.Alike U.vm) (h : vx_L C n d A u H) : vx_L C n d A U H := by
  obtain ⟨c, k, i, f, a, cell, h1, h2, h3, h4, h5, h6, h7, h8, h9, h10⟩ := h
  obtain ⟨k', hi', he⟩ := State.fieldFound?_setVm hvm h2
  exact ⟨c, k', i, f, a, cell, by rw [hvm.findClass]; exact h1, hi', h3, by rw [he]; exact h4, h5, h6, h7, h8, by rw [he]; exact h9, h10⟩
theorem vx_L.kept {C n d : String} {A : Nat → Prop} {U : State} {H H1 : Heap} (h : vx_L C n d A U H) (hq : ∀ a : Nat, a < H.size → ¬ A a → H1[a]? = H[a]?) : vx_L C n d A U H1 := by
  obtain ⟨c, k, i, f, a, cell, h1, h2, h3, h4, h5, h6, h7, h8, h9, h10⟩ := h
  exact ⟨c, k, i, f, a, cell, h1, h2, h3, h4, by rw [hq a (Array.getElem?_eq_some_iff.mp h5).1 h10]; exact h5, h6, h7, h8, h9, h10⟩
theorem vx_L.narrow {C n d : String} {A B : Nat → Prop} {U : State} {H : Heap} (h : vx_L C n d A U H) (hAB : ∀ q, B q → A q) : vx_L C n d B U H := by
  obtain ⟨c, k, i, f, a, cell, h1, h2, h3, h4, h5, h6, h7, h8, h9, h10⟩ := h
  exact ⟨c, k, i, f, a, cell, h1, h2, h3, h4, h5, h6, h7, h8, h9, fun z => h10 (hAB _ z)⟩
theorem vx_L.word {C n d : String} {A : Nat → Prop} {s : State} {args : Array Value} (h : vx_L C n d A s s.heap) : (Cond.laysStatic C n d).before args s = true := by
  obtain ⟨c, k, i, f, a, cell, h1, h2, h3, h4, h5, h6, h7, h8, h9, -⟩ := h
  show (Cond.laysStatic C n d).holds args s none s [] = true
  exact Cond.laysStatic_of h1 h2 h3 h4 h5 h6 h7 h8 h9
/-- .. and what it holds: null or some reference -/
def vx_Zq (C n d : String) (A : Nat → Prop) (U : State) (H : Heap) : Prop := va_Zq C n d A U H ∧ vx_L C n d A U H
theorem vx_Zq.moved {C n d : String} {A : Nat → Prop} {u U : State} {H : Heap} (hvm : u.vm.Alike U.vm) (h : vx_Zq C n d A u H) : vx_Zq C n d A U H := ⟨va_Zq.moved hvm h.1, vx_L.moved hvm h.2⟩
theorem vx_Zq.kept {C n d : String} {A : Nat → Prop} {U : State} {H H1 : Heap} (h : vx_Zq C n d A U H) (hq : ∀ a : Nat, a < H.size → ¬ A a → H1[a]? = H[a]?) : vx_Zq C n d A U H1 := ⟨va_Zq.kept h.1 hq, vx_L.kept h.2 hq⟩
theorem vx_Zq.narrow {C n d : String} {A B : Nat → Prop} {U : State} {H : Heap} (h : vx_Zq C n d A U H) (hAB : ∀ q, B q → A q) : vx_Zq C n d B U H := ⟨va_Zq.narrow h.1 hAB, vx_L.narrow h.2 hAB⟩
theorem vx_Zqof {args : Array Value} {s : State} {C n d : String} {A : Nat → Prop} (hl : (Cond.laysStatic C n d).before args s = true) (hini : (Cond.initialized C).before args s = true) (h : (Cond.isRef (.static C n d)).before args s = true) (hA : ∀ a : Nat, a < s.heap.size → ¬ A a) : vx_Zq C n d A s s.heap := by
  refine ⟨va_Zqof hl hini h hA, ?_⟩
  obtain ⟨c, k, i, f, a, cell, h1, h2, h3, h4, h5, h6, h7, h8, h9⟩ := Cond.laysStatic_spec hl
  exact ⟨c, k, i, f, a, cell, h1, h2, h3, h4, h5, h6, h7, h8, h9, hA a (Array.getElem?_eq_some_iff.mp h5).1⟩
theorem vx_isRef {C n d : String} {v : Value} {A : Nat → Prop} {s : State} {args : Array Value} (h : va_Z C n d v A s s.heap) (hv : v.isRef = true) : (Cond.isRef (.static C n d)).before args s = true := by
  obtain ⟨cf, kf, fi, f, a, cell, h1, h2, h3, h4, h5, h6, h7, -⟩ := h
  have he : (Term.static C n d).eval args s none [] s = some v := by
    simp [Term.eval, State.fieldNamed?, h1, h2, h4, h5, h6, h7]
  simp only [Cond.before, Cond.holds, Cond.value, he]
  cases v <;> simp_all [Value.isRef]
theorem vx_isRefq {C n d : String} {A : Nat → Prop} {s : State} {args : Array Value} (h : va_Zq C n d A s s.heap) : (Cond.isRef (.static C n d)).before args s = true := by
  rcases h with h | ⟨t, h⟩
  · exact vx_isRef h rfl
  · exact vx_isRef h rfl
/-- the same frame, seen from here: as if the method were called anew in this heap -/
theorem vx_rebase {T : State} (X : Stand p l e R s m args below meth c T locs cells slots) {R' : Room} (hf : R'.frames ≤ R.frames) (hl : R'.locals ≤ R.locals) (hc : cells + R'.cells ≤ R.cells) (hs : slots + R'.slots ≤ R.slots) :
    Stand p l e R' ((T.setVm s.vm).setFrames (.invoking m args :: below)) m args below meth c T [] 0 0 := by
  have htop : (T.setVm s.vm).topJava?.isSome := X.here.top
  have hF : ((T.setVm s.vm).setFrames (.invoking m args :: below)).frames = .invoking m args :: below := State.frames_setFrames _ (State.cur_lt_of_top htop)
  obtain ⟨g₀, hg0⟩ := Option.isSome_iff_exists.mp htop
  obtain ⟨r, hr⟩ := State.topJava?_eq_some.mp hg0
  have hl9 : e.platform.stackLimits (T.setVm s.vm).me = e.platform.stackLimits s.me := X.limits
  have hb9 : (T.setVm s.vm).me.stackBytes = s.me.stackBytes := X.bytes
  refine ⟨X.admits, X.cas, X.clock, hF, ?_, X.hears, X.method, X.code, X.here, X.tail, X.warmed, ?_, ?_, ?_⟩
  · have h := X.room
    have hU : ((T.setVm s.vm).setFrames (.invoking m args :: below)).localsInUse = s.localsInUse := by
      rw [State.localsInUse_invoking hF (meth := meth) (c := c) X.method X.code, State.localsInUse_invoking X.frames X.method X.code]
    simp only [State.hasRoom, Bool.and_eq_true, decide_eq_true_eq] at h ⊢
    obtain ⟨⟨⟨⟨h1, h2, h3, h4, h5, h6⟩, h7⟩, h8⟩, h9⟩ := h
    rw [X.frames, List.length_cons] at h2 h3
    have q1 := X.heapSize
    have q2 := X.used
    simp only [hF, hU, List.length_cons, State.stackLimits_setFrames, State.stackBytes_setFrames, hl9, hb9]
    refine ⟨⟨⟨⟨by omega, by omega, by omega, by omega, by omega, h6⟩, ?_⟩, ?_⟩, X.book⟩
    · show T.heap.size + R'.cells ≤ e.platform.maxCells
      omega
    · show T.slotsUsed + R'.slots ≤ e.platform.maxSlots
      omega
  · rw [State.stackLimits_setFrames]; rfl
  · rw [State.stackBytes_setFrames]; rfl
  · refine ⟨?_, Nat.le_refl _, Nat.le_refl _, ?_, ?_, fun a c9 h9 => ⟨c9, h9, rfl, rfl, fun _ _ => rfl⟩⟩
    · obtain ⟨t, ht, -⟩ := State.frames_cons hr
      show T.setVm s.vm = { ((T.setVm s.vm).setFrames (.invoking m args :: below)).setFrames (T.setVm s.vm).frames with heap := T.heap, slotsUsed := T.slotsUsed }
      rw [State.setFrames_setFrames, State.setFrames_self ht]
      rfl
    · show T.slotsUsed = T.slotsUsed + ((T.heap.toList.drop T.heap.size).map (·.slots.size)).sum
      rw [List.drop_eq_nil_of_le (Nat.le_of_eq Array.length_toList)]
      rfl
    · show ((T.heap.toList.drop T.heap.size).map (·.slots.size)).sum ≤ 0
      rw [List.drop_eq_nil_of_le (Nat.le_of_eq Array.length_toList)]
      exact Nat.le_refl _
/-- 'throw new E()': new; dup; invokespecial; athrow -/
theorem vx_throw0 {cc : ByteArray} {pc : Nat} (hexec : p.tables.exec = Jvm.exec) (hb : c.code = cc) (hl : l.stackTraces = false) {own cls : String} {names : List String} {ik ic mc ms : Nat} {A : Nat → Prop}
    (hown : s.vm.findClass own = some m.cls) (hcls : Bundle.fit cls = true) (hnames : ∀ n ∈ names, Bundle.fit n = true)
    (hk : (Cond.classLink own ik cls).before args s = true) (hini : (Cond.initialized cls).before args s = true) (hat : ∀ w ∈ vx_at0 own ic cls names, w.before args s = true)
    (hgood : ∀ w ∈ Cond.classLink own ik cls :: Cond.initialized cls :: vx_at0 own ic cls names, vx_ot w = true)
    (hU : vx_Zq Bundle.tN "UNASSIGNED_STACK" Bundle.steD A s s.heap) (hN : vx_Zq Bundle.tN "SUPPRESSED_SENTINEL" Bundle.listD A s s.heap) (hS : va_S A s.heap H locs) (hsize : ls.size = c.maxLocals)
    (d0 : decode cc pc = .ok (.new ik, 3)) (d3 : decode cc (pc + 3) = .ok (.dup, 1)) (d4 : decode cc (pc + 4) = .ok (.invokespecial ic, 3)) (d7 : decode cc (pc + 7) = .ok (.athrow, 1))
    (hout : ∀ x ∈ c.exceptionTable.toList, covers x (pc + 7) = false)
    (hRframes : names.length + 3 < R.frames) (hRlocals : (rest.map fun v => v.category).sum + (13 * (names.length + 1) + 42) ≤ R.locals) (hRcells : cells + 1 ≤ R.cells) (hRslots : slots + 6 ≤ R.slots) (hlocks : meth.locks = false)
    (hx : ∀ t : State, s.vm.Alike t.vm → H.size ≤ t.heap.size → (∀ q : Nat, q < H.size → t.heap[q]? = H[q]?) → XC cls s t)
    (hf : ∀ z ∈ locs, free z.base) (hc : cells + 1 ≤ mc) (hs : slots + 6 ≤ ms) :
    W p l e R s m args below meth c H locs cells slots (vx_MQ below Qc XC args s mc ms free) (F0 m pc ls rest) := by
  intro T hT X
  have htr : e.platform.stackTraces = false := (show e.platform.stackTraces = l.stackTraces by rw [X.admits.platform]).trans hl
  have Y := vx_rebase X (R' := { frames := R.frames, locals := R.locals, cells := 1, slots := 6 }) (Nat.le_refl _) (Nat.le_refl _) hRcells hRslots
  obtain ⟨s', hA⟩ : ∃ z, z = (T.setVm s.vm).setFrames (.invoking m args :: below) := ⟨_, rfl⟩
  rw [← hA] at Y
  have hvm : s'.vm = s.vm := by rw [hA]; rfl
  have hhp : s'.heap = H := by rw [hA]; exact hT
  have hW0 : s.WarmedH s'.vm := by rw [hvm]; exact State.WarmedH.refl s
  have hat' : ∀ w ∈ vx_at0 own ic cls names, w.before args s' = true := fun w hw => vx_ot_at hW0 hvm.symm (hgood w (List.mem_cons_of_mem _ (List.mem_cons_of_mem _ hw))) (hat w hw)
  have hk' : (Cond.classLink own ik cls).before args s' = true := vx_ot_at hW0 hvm.symm (hgood _ List.mem_cons_self) hk
  have hini' : (Cond.initialized cls).before args s' = true := vx_ot_at hW0 hvm.symm (hgood _ (List.mem_cons_of_mem _ List.mem_cons_self)) hini
  have hU' : vx_Zq Bundle.tN "UNASSIGNED_STACK" Bundle.steD A s' s'.heap := by rw [hhp]; exact vx_Zq.moved hW0.alike (hU.kept hS.2.1)
  have hN' : vx_Zq Bundle.tN "SUPPRESSED_SENTINEL" Bundle.listD A s' s'.heap := by rw [hhp]; exact vx_Zq.moved hW0.alike (hN.kept hS.2.1)
  have h : ∀ w ∈ Bundle.ownAtoms0 own ic cls names, w.before args s' = true := vx_own hat' (vx_isRefq hU'.1) (vx_isRefq hN'.1) hU'.2.word hN'.2.word
  have hown' : s'.vm.findClass own = some m.cls := by rw [hvm]; exact hown
  have hins : (Cond.instantiable cls 6).before args s' = true := h _ (by simp [Bundle.ownAtoms0])
  obtain ⟨vm₁, cX, kX, hfX, hkX, -, -, X₁, st1⟩ := Y.newCold hexec (own := own) (C := cls) (index := ik) (n := 6) hown' hk' hins hini'
    (g := F0 m pc ls rest) rfl (by rw [hb]; exact d0) (Nat.le_refl _) (Nat.le_refl _)
  generalize hT1 : (T.setVm vm₁).pushCell { cls := cX, slots := kX.instanceTypes.map defaultValue, vm := .none } = T1 at X₁ st1
  have hcat : (Value.ref T.heap.size).category = 1 := rfl
  have hcellA : T1.heap[T.heap.size]? = some (freshCell cX kX) := by rw [← hT1]; exact State.heap_pushCell_size _ _
  have d3' : decode c.code (pc + 3) = .ok (.dup, 1) := by rw [hb]; exact d3
  obtain ⟨U, hsteps, hrun, hend, hW, hsame, ce, hce, hO⟩ := X₁.ctorThrow0 hexec htr (own := own) (cls := cls) (names := names) (ic := ic) hown' hcls hnames h (fun x hx => nomatch hx) hfX hkX hcellA (by rw [hhp, hT]; exact Nat.le_refl _)
    (g := { method := m, pc := pc + 4, locals := ls, stack := .ref T.heap.size :: .ref T.heap.size :: rest, locked := none }) rfl hsize rfl rfl (rest := rest) rfl
    (by rw [hb]; exact d4) (by rw [hb]; exact d7) hout hRframes (by simp only [List.map_cons, List.sum_cons, hcat]; omega) hlocks
  obtain ⟨f1, f2⟩ := vx_frame hsame
  rw [hhp] at f1 f2
  have hWs : s.WarmedH U.vm := State.WarmedH.trans hW0 hW
  have hcl : s.vm.findClass cls = some ce.cls := by
    have h9 := hO.cls
    rw [hvm] at h9
    exact h9
  have hall : s.sameButNew ({ U with vm := s.vm } : State) locs mc ms := by
    subst hA
    obtain ⟨e1, e2⟩ := hsame
    rw [State.setFrames_setFrames] at e1
    have h2 : (T.setVm s.vm).sameButNew ({ U with vm := s.vm } : State) [] (0 + 1) (0 + 6) := ⟨e1, e2⟩
    have h3 := X.same.trans h2
    rw [List.append_nil] at h3
    exact h3.mono hc hs
  refine ⟨U, ?_, .threw T.heap.size, hrun, hend, Or.inr ⟨T.heap.size, rfl, cls, ce, locs, hx U hWs.alike f1 (fun q hq => f2 q hq (fun z hz => nomatch hz)), hce, hO.vm, hcl, hWs, hall, hf⟩⟩
  refine st1 _ ?_
  show Steps p.tables e below (T1.setTop { method := m, pc := pc + 3, locals := ls, stack := .ref T.heap.size :: rest, locked := none }) _
  jvm_step X₁.here [X₁.here.top, hexec, d3', Value.category]
  exact hsteps
/-- 'throw new E("text")': new; dup; ldc; invokespecial; athrow -/
theorem vx_throwS {cc : ByteArray} {pc : Nat} (hexec : p.tables.exec = Jvm.exec) (hb : c.code = cc) (hl : l.stackTraces = false) {own cls text : String} {names : List String} {ik is ic mc ms sa : Nat} {A : Nat → Prop}
    (hown : s.vm.findClass own = some m.cls) (hcls : Bundle.fit cls = true) (hnames : ∀ n ∈ names, Bundle.fit n = true)
    (hk : (Cond.classLink own ik cls).before args s = true) (hini : (Cond.initialized cls).before args s = true) (hstr : vk_R own is text sa s) (hat : ∀ w ∈ vx_atS own ic cls names, w.before args s = true)
    (hgood : ∀ w ∈ Cond.classLink own ik cls :: Cond.initialized cls :: vx_atS own ic cls names, vx_ot w = true)
    (hU : vx_Zq Bundle.tN "UNASSIGNED_STACK" Bundle.steD A s s.heap) (hN : vx_Zq Bundle.tN "SUPPRESSED_SENTINEL" Bundle.listD A s s.heap) (hS : va_S A s.heap H locs) (hsize : ls.size = c.maxLocals)
    (d0 : decode cc pc = .ok (.new ik, 3)) (d3 : decode cc (pc + 3) = .ok (.dup, 1)) (d4 : decode cc (pc + 4) = .ok (.ldc is, 2)) (d6 : decode cc (pc + 6) = .ok (.invokespecial ic, 3)) (d9 : decode cc (pc + 9) = .ok (.athrow, 1))
    (hout : ∀ x ∈ c.exceptionTable.toList, covers x (pc + 9) = false)
    (hRframes : names.length + 3 < R.frames) (hRlocals : (rest.map fun v => v.category).sum + (13 * (names.length + 1) + 43) ≤ R.locals) (hRcells : cells + 1 ≤ R.cells) (hRslots : slots + 6 ≤ R.slots) (hlocks : meth.locks = false)
    (hx : ∀ t : State, s.vm.Alike t.vm → H.size ≤ t.heap.size → (∀ q : Nat, q < H.size → t.heap[q]? = H[q]?) → XC cls s t)
    (hf : ∀ z ∈ locs, free z.base) (hc : cells + 1 ≤ mc) (hs : slots + 6 ≤ ms) :
    W p l e R s m args below meth c H locs cells slots (vx_MQ below Qc XC args s mc ms free) (F0 m pc ls rest) := by
  intro T hT X
  have htr : e.platform.stackTraces = false := (show e.platform.stackTraces = l.stackTraces by rw [X.admits.platform]).trans hl
  have Y := vx_rebase X (R' := { frames := R.frames, locals := R.locals, cells := 1, slots := 6 }) (Nat.le_refl _) (Nat.le_refl _) hRcells hRslots
  obtain ⟨s', hA⟩ : ∃ z, z = (T.setVm s.vm).setFrames (.invoking m args :: below) := ⟨_, rfl⟩
  rw [← hA] at Y
  have hvm : s'.vm = s.vm := by rw [hA]; rfl
  have hhp : s'.heap = H := by rw [hA]; exact hT
  have hW0 : s.WarmedH s'.vm := by rw [hvm]; exact State.WarmedH.refl s
  have hat' : ∀ w ∈ vx_atS own ic cls names, w.before args s' = true := fun w hw => vx_ot_at hW0 hvm.symm (hgood w (List.mem_cons_of_mem _ (List.mem_cons_of_mem _ hw))) (hat w hw)
  have hk' : (Cond.classLink own ik cls).before args s' = true := vx_ot_at hW0 hvm.symm (hgood _ List.mem_cons_self) hk
  have hini' : (Cond.initialized cls).before args s' = true := vx_ot_at hW0 hvm.symm (hgood _ (List.mem_cons_of_mem _ List.mem_cons_self)) hini
  have hU' : vx_Zq Bundle.tN "UNASSIGNED_STACK" Bundle.steD A s' s'.heap := by rw [hhp]; exact vx_Zq.moved hW0.alike (hU.kept hS.2.1)
  have hN' : vx_Zq Bundle.tN "SUPPRESSED_SENTINEL" Bundle.listD A s' s'.heap := by rw [hhp]; exact vx_Zq.moved hW0.alike (hN.kept hS.2.1)
  have h : ∀ w ∈ Bundle.ownAtoms own ic cls names, w.before args s' = true := vx_own hat' (vx_isRefq hU'.1) (vx_isRefq hN'.1) hU'.2.word hN'.2.word
  have hown' : s'.vm.findClass own = some m.cls := by rw [hvm]; exact hown
  have hins : (Cond.instantiable cls 6).before args s' = true := h _ (by simp [Bundle.ownAtoms])
  obtain ⟨vm₁, cX, kX, hfX, hkX, -, -, X₁, st1⟩ := Y.newCold hexec (own := own) (C := cls) (index := ik) (n := 6) hown' hk' hins hini'
    (g := F0 m pc ls rest) rfl (by rw [hb]; exact d0) (Nat.le_refl _) (Nat.le_refl _)
  generalize hT1 : (T.setVm vm₁).pushCell { cls := cX, slots := kX.instanceTypes.map defaultValue, vm := .none } = T1 at X₁ st1
  have hcat : (Value.ref T.heap.size).category = 1 := rfl
  have hcellA : T1.heap[T.heap.size]? = some (freshCell cX kX) := by rw [← hT1]; exact State.heap_pushCell_size _ _
  have d3' : decode c.code (pc + 3) = .ok (.dup, 1) := by rw [hb]; exact d3
  have d4' : decode c.code (pc + 4) = .ok (.ldc is, 2) := by rw [hb]; exact d4
  have hstr' : vk_R own is text sa s' := vk_R.warm hW0 hstr
  obtain ⟨U, hsteps, hrun, hend, hW, hsame, ce, hce, hO⟩ := X₁.ctorThrowS hexec htr (own := own) (cls := cls) (names := names) (ic := ic) hown' hcls hnames h (fun x hx => nomatch hx) hfX hkX hcellA (by rw [hhp, hT]; exact Nat.le_refl _) (msg := .ref sa) rfl
    (g := { method := m, pc := pc + 6, locals := ls, stack := .ref sa :: .ref T.heap.size :: .ref T.heap.size :: rest, locked := none }) rfl hsize rfl rfl (rest := rest) rfl
    (by rw [hb]; exact d6) (by rw [hb]; exact d9) hout hRframes (by simp only [List.map_cons, List.sum_cons, hcat]; omega) hlocks
  obtain ⟨f1, f2⟩ := vx_frame hsame
  rw [hhp] at f1 f2
  have hWs : s.WarmedH U.vm := State.WarmedH.trans hW0 hW
  have hcl : s.vm.findClass cls = some ce.cls := by
    have h9 := hO.cls
    rw [hvm] at h9
    exact h9
  have hall : s.sameButNew ({ U with vm := s.vm } : State) locs mc ms := by
    subst hA
    obtain ⟨e1, e2⟩ := hsame
    rw [State.setFrames_setFrames] at e1
    have h2 : (T.setVm s.vm).sameButNew ({ U with vm := s.vm } : State) [] (0 + 1) (0 + 6) := ⟨e1, e2⟩
    have h3 := X.same.trans h2
    rw [List.append_nil] at h3
    exact h3.mono hc hs
  refine ⟨U, ?_, .threw T.heap.size, hrun, hend, Or.inr ⟨T.heap.size, rfl, cls, ce, locs, hx U hWs.alike f1 (fun q hq => f2 q hq (fun z hz => nomatch hz)), hce, hO.vm, hcl, hWs, hall, hf⟩⟩
  refine st1 _ ?_
  show Steps p.tables e below (T1.setTop { method := m, pc := pc + 3, locals := ls, stack := .ref T.heap.size :: rest, locked := none }) _
  jvm_step X₁.here [X₁.here.top, hexec, d3', Value.category]
  exact X₁.ldcString hexec (own := own) (text := text) (index := is) (a := sa) hown' hstr'.1 hstr'.2
    (g := { method := m, pc := pc + 4, locals := ls, stack := .ref T.heap.size :: .ref T.heap.size :: rest, locked := none }) rfl d4' _ hsteps
/-- 'throw new E("text")', the text by a wide index -/
theorem vx_throwSW {cc : ByteArray} {pc : Nat} (hexec : p.tables.exec = Jvm.exec) (hb : c.code = cc) (hl : l.stackTraces = false) {own cls text : String} {names : List String} {ik is ic mc ms sa : Nat} {A : Nat → Prop}
    (hown : s.vm.findClass own = some m.cls) (hcls : Bundle.fit cls = true) (hnames : ∀ n ∈ names, Bundle.fit n = true)
    (hk : (Cond.classLink own ik cls).before args s = true) (hini : (Cond.initialized cls).before args s = true) (hstr : vk_R own is text sa s) (hat : ∀ w ∈ vx_atS own ic cls names, w.before args s = true)
    (hgood : ∀ w ∈ Cond.classLink own ik cls :: Cond.initialized cls :: vx_atS own ic cls names, vx_ot w = true)
    (hU : vx_Zq Bundle.tN "UNASSIGNED_STACK" Bundle.steD A s s.heap) (hN : vx_Zq Bundle.tN "SUPPRESSED_SENTINEL" Bundle.listD A s s.heap) (hS : va_S A s.heap H locs) (hsize : ls.size = c.maxLocals)
    (d0 : decode cc pc = .ok (.new ik, 3)) (d3 : decode cc (pc + 3) = .ok (.dup, 1)) (d4 : decode cc (pc + 4) = .ok (.ldc_w is, 3)) (d7 : decode cc (pc + 7) = .ok (.invokespecial ic, 3)) (d10 : decode cc (pc + 10) = .ok (.athrow, 1))
    (hout : ∀ x ∈ c.exceptionTable.toList, covers x (pc + 10) = false)
    (hRframes : names.length + 3 < R.frames) (hRlocals : (rest.map fun v => v.category).sum + (13 * (names.length + 1) + 43) ≤ R.locals) (hRcells : cells + 1 ≤ R.cells) (hRslots : slots + 6 ≤ R.slots) (hlocks : meth.locks = false)
    (hx : ∀ t : State, s.vm.Alike t.vm → H.size ≤ t.heap.size → (∀ q : Nat, q < H.size → t.heap[q]? = H[q]?) → XC cls s t)
    (hf : ∀ z ∈ locs, free z.base) (hc : cells + 1 ≤ mc) (hs : slots + 6 ≤ ms) :
    W p l e R s m args below meth c H locs cells slots (vx_MQ below Qc XC args s mc ms free) (F0 m pc ls rest) := by
  intro T hT X
  have htr : e.platform.stackTraces = false := (show e.platform.stackTraces = l.stackTraces by rw [X.admits.platform]).trans hl
  have Y := vx_rebase X (R' := { frames := R.frames, locals := R.locals, cells := 1, slots := 6 }) (Nat.le_refl _) (Nat.le_refl _) hRcells hRslots
  obtain ⟨s', hA⟩ : ∃ z, z = (T.setVm s.vm).setFrames (.invoking m args :: below) := ⟨_, rfl⟩
  rw [← hA] at Y
  have hvm : s'.vm = s.vm := by rw [hA]; rfl
  have hhp : s'.heap = H := by rw [hA]; exact hT
  have hW0 : s.WarmedH s'.vm := by rw [hvm]; exact State.WarmedH.refl s
  have hat' : ∀ w ∈ vx_atS own ic cls names, w.before args s' = true := fun w hw => vx_ot_at hW0 hvm.symm (hgood w (List.mem_cons_of_mem _ (List.mem_cons_of_mem _ hw))) (hat w hw)
  have hk' : (Cond.classLink own ik cls).before args s' = true := vx_ot_at hW0 hvm.symm (hgood _ List.mem_cons_self) hk
  have hini' : (Cond.initialized cls).before args s' = true := vx_ot_at hW0 hvm.symm (hgood _ (List.mem_cons_of_mem _ List.mem_cons_self)) hini
  have hU' : vx_Zq Bundle.tN "UNASSIGNED_STACK" Bundle.steD A s' s'.heap := by rw [hhp]; exact vx_Zq.moved hW0.alike (hU.kept hS.2.1)
  have hN' : vx_Zq Bundle.tN "SUPPRESSED_SENTINEL" Bundle.listD A s' s'.heap := by rw [hhp]; exact vx_Zq.moved hW0.alike (hN.kept hS.2.1)
  have h : ∀ w ∈ Bundle.ownAtoms own ic cls names, w.before args s' = true := vx_own hat' (vx_isRefq hU'.1) (vx_isRefq hN'.1) hU'.2.word hN'.2.word
  have hown' : s'.vm.findClass own = some m.cls := by rw [hvm]; exact hown
  have hins : (Cond.instantiable cls 6).before args s' = true := h _ (by simp [Bundle.ownAtoms])
  obtain ⟨vm₁, cX, kX, hfX, hkX, -, -, X₁, st1⟩ := Y.newCold hexec (own := own) (C := cls) (index := ik) (n := 6) hown' hk' hins hini'
    (g := F0 m pc ls rest) rfl (by rw [hb]; exact d0) (Nat.le_refl _) (Nat.le_refl _)
  generalize hT1 : (T.setVm vm₁).pushCell { cls := cX, slots := kX.instanceTypes.map defaultValue, vm := .none } = T1 at X₁ st1
  have hcat : (Value.ref T.heap.size).category = 1 := rfl
  have hcellA : T1.heap[T.heap.size]? = some (freshCell cX kX) := by rw [← hT1]; exact State.heap_pushCell_size _ _
  have d3' : decode c.code (pc + 3) = .ok (.dup, 1) := by rw [hb]; exact d3
  have d4' : decode c.code (pc + 4) = .ok (.ldc_w is, 3) := by rw [hb]; exact d4
  have hstr' : vk_R own is text sa s' := vk_R.warm hW0 hstr
  obtain ⟨U, hsteps, hrun, hend, hW, hsame, ce, hce, hO⟩ := X₁.ctorThrowS hexec htr (own := own) (cls := cls) (names := names) (ic := ic) hown' hcls hnames h (fun x hx => nomatch hx) hfX hkX hcellA (by rw [hhp, hT]; exact Nat.le_refl _) (msg := .ref sa) rfl
    (g := { method := m, pc := pc + 7, locals := ls, stack := .ref sa :: .ref T.heap.size :: .ref T.heap.size :: rest, locked := none }) rfl hsize rfl rfl (rest := rest) rfl
    (by rw [hb]; exact d7) (by rw [hb]; exact d10) hout hRframes (by simp only [List.map_cons, List.sum_cons, hcat]; omega) hlocks
  obtain ⟨f1, f2⟩ := vx_frame hsame
  rw [hhp] at f1 f2
  have hWs : s.WarmedH U.vm := State.WarmedH.trans hW0 hW
  have hcl : s.vm.findClass cls = some ce.cls := by
    have h9 := hO.cls
    rw [hvm] at h9
    exact h9
  have hall : s.sameButNew ({ U with vm := s.vm } : State) locs mc ms := by
    subst hA
    obtain ⟨e1, e2⟩ := hsame
    rw [State.setFrames_setFrames] at e1
    have h2 : (T.setVm s.vm).sameButNew ({ U with vm := s.vm } : State) [] (0 + 1) (0 + 6) := ⟨e1, e2⟩
    have h3 := X.same.trans h2
    rw [List.append_nil] at h3
    exact h3.mono hc hs
  refine ⟨U, ?_, .threw T.heap.size, hrun, hend, Or.inr ⟨T.heap.size, rfl, cls, ce, locs, hx U hWs.alike f1 (fun q hq => f2 q hq (fun z hz => nomatch hz)), hce, hO.vm, hcl, hWs, hall, hf⟩⟩
  refine st1 _ ?_
  show Steps p.tables e below (T1.setTop { method := m, pc := pc + 3, locals := ls, stack := .ref T.heap.size :: rest, locked := none }) _
  jvm_step X₁.here [X₁.here.top, hexec, d3', Value.category]
  exact X₁.ldcStringW hexec (own := own) (text := text) (index := is) (a := sa) hown' hstr'.1 hstr'.2
    (g := { method := m, pc := pc + 4, locals := ls, stack := .ref T.heap.size :: .ref T.heap.size :: rest, locked := none }) rfl d4' _ hsteps
end Ends
section Bodies
variable {l : Launch}
theorem vx_ofW {y : MethodName} {ws ws' : List Cond} {rm : Room} {Pc : Array Value → State → Prop} {Qc : Array Value → State → Outcome → State → Prop} {XC : String → State → State → Prop} {mc ms : Nat} {free : Addr → Prop} {cc : ByteArray} {maxL : Nat} {ret : Option FieldType}
    (hy : plainName y.cls = true) (hw : ws = Cond.code y cc maxL ret :: ws')
    (body : ∀ p e s m args below meth c s₁, BodyLoose p l y (headSpec ws rm) cc maxL ret e s m args below meth c s₁ → c.maxLocals = maxL → (∀ x ∈ c.exceptionTable.toList, False) → Pc args s →
      W p l e (headSpec ws rm).room s m args below meth c s.heap [] 0 0 (vx_MQ below Qc XC args s mc ms free) (entryFrame m args maxL)) : vx_Met l y ws rm Pc Qc XC mc ms free := by
  refine MetFree.of_bodyS (code := cc) (maxLocals := maxL) (ret := ret) hy ?_ ?_
  · intro args s m h hn
    obtain ⟨meth, c, h1, h2, h3, h4, h5, h6, -, -⟩ := Cond.code_spec hn (atoms_spec (ws := ws) h _ (by rw [hw]; exact List.mem_cons_self))
    exact ⟨meth, c, h1, h2, h3, h4, h5, h6⟩
  · intro p e s m args below meth c s₁ B hml hP _
    have hh0 : s₁.heap = s.heap := by rw [B.state]; rfl
    have ht : ∀ x ∈ c.exceptionTable.toList, False := by
      obtain ⟨meth9, c9, h1, h2, -, -, -, -, h7, -⟩ := Cond.code_spec B.named (atoms_spec (ws := ws) B.pre _ (by rw [hw]; exact List.mem_cons_self))
      cases Option.some.inj (h1.symm.trans B.method)
      cases Option.some.inj (h2.symm.trans (Stand.of_body B).code)
      intro x hx
      rw [Array.isEmpty_iff.mp h7] at hx
      cases hx
    obtain ⟨t, a1, o, b1, b2, b3⟩ := body p e s m args below meth c s₁ B hml ht hP s₁ hh0 (Stand.of_body B)
    exact ⟨t, o, a1, b1, b2, b3⟩
/-- the table of a body with handlers -/
theorem vx_table {p : Program} {x y : MethodName} {S : Spec} {cc bytes : ByteArray} {maxL maxL' : Nat} {ret ret' : Option FieldType} {e : Env} {s s₁ : State} {m : MethodId} {args : Array Value} {below : List Frame} {meth : Method} {c : Code} {hh : List (Nat × Nat × Nat × Nat)}
    (B : BodyLoose p l y S cc maxL ret e s m args below meth c s₁) (h : (Cond.codeWith y bytes maxL' ret' hh).before args s = true) : c.exceptionTable.toList = tableOf hh := by
  obtain ⟨m9, meth9, c9, hn9, h1, h2, -, -, h6, -⟩ := Cond.codeWith_spec h
  cases Option.some.inj (hn9.symm.trans B.named)
  cases Option.some.inj (h1.symm.trans B.method)
  cases Option.some.inj (h2.symm.trans (Stand.of_body B).code)
  rw [← h6, table_eq]
end Bodies
end VXA
/-! ===== END ===== -/
/-! ===== BEGIN a static call of a method with an exception table ===== -/
section VXS
variable {p : Program} {l : Launch} {e : Env} {R : Room} {s : State} {m : MethodId} {args : Array Value} {below : List Frame} {meth : Method} {c : Code} {T : State} {H : Heap} {locs : List Loc} {cells slots : Nat}
abbrev vx_CSW (R : Room) (s : State) (args : Array Value) (own : String) (index : Nat) (y : MethodName) (bytes : ByteArray) (maxL : Nat) (ret : Option FieldType) (hh : List (Nat × Nat × Nat × Nat)) (ws : List Cond) (rm : Room) (mc ms n : Nat) : Prop :=
  (rm.cells = mc ∧ rm.slots = ms ∧ rm.frames + 1 ≤ R.frames ∧ 8 + (maxL + 11) + rm.locals ≤ R.locals ∧ (∀ w ∈ ws, ∀ (a' : Array Value) (U : State), s.WarmedH U.vm → w.before a' U = true) ∧ Cond.codeWith y bytes maxL ret hh ∈ ws) ∧
  (Cond.codeWith y bytes maxL ret hh).before args s = true ∧ (Cond.initialized y.cls).before args s = true ∧ (y.cls ≠ "java/lang/invoke/MethodHandle" ∧ y.cls ≠ "java/lang/invoke/VarHandle") ∧
  (∀ sig, parseMethodDescriptor y.desc = some sig → n = sig.parameters.length) ∧ (Cond.methodLink own index y).before args s = true ∧ (Cond.static y).before args s = true
theorem vx_cwSW {own : String} {index maxL mc ms : Nat} {y : MethodName} {bytes : ByteArray} {ret : Option FieldType} {hh : List (Nat × Nat × Nat × Nat)} {Ts ws ws' : List Cond} {rm : Room} (n : Nat) (ht : ∀ w ∈ Ts, w.before args s = true) (hT : GoodIn Ts (va_wsS own index y ws)) (hw : ws = Cond.codeWith y bytes maxL ret hh :: ws') (hrc : rm.cells = mc) (hrs : rm.slots = ms)
    (hd : y.cls ≠ "java/lang/invoke/MethodHandle" ∧ y.cls ≠ "java/lang/invoke/VarHandle" ∧ (parseMethodDescriptor y.desc).map (fun d => d.parameters.length) = some n) (hR : rm.frames + 1 ≤ R.frames ∧ 8 + (maxL + 11) + rm.locals ≤ R.locals) :
    vx_CSW R s args own index y bytes maxL ret hh ws rm mc ms n := by
  have ok : ∀ w ∈ va_wsS own index y ws, w.before args s = true := fun w h => ht w (hT w h).1
  have hG : GoodIn Ts ws := fun w h => hT w (by unfold va_wsS; exact List.mem_append_right _ h)
  have hc : Cond.codeWith y bytes maxL ret hh ∈ ws := by rw [hw]; exact List.mem_cons_self
  refine ⟨⟨hrc, hrs, hR.1, hR.2, pay_in ht hG, hc⟩, ht _ (hG _ hc).1, ok _ (by simp [va_wsS]), ⟨hd.1, hd.2.1⟩, fun sig h => ?_, ok _ (by simp [va_wsS]), ok _ (by simp [va_wsS])⟩
  have h2 := hd.2.2
  rw [h] at h2
  exact (Option.some.inj h2).symm
theorem vx_callSW (X : Stand p l e R s m args below meth c T locs cells slots) (hexec : p.tables.exec = Jvm.exec) {own : String} {index : Nat} {y : MethodName} {bytes : ByteArray} {maxL : Nat} {ret : Option FieldType} {hh : List (Nat × Nat × Nat × Nat)}
    (hown : s.vm.findClass own = some m.cls) (hlink : (Cond.methodLink own index y).before args s = true) (hstat : (Cond.static y).before args s = true) (hinit : (Cond.initialized y.cls).before args s = true)
    (hcode : (Cond.codeWith y bytes maxL ret hh).before args s = true) (hy : y.cls ≠ "java/lang/invoke/MethodHandle" ∧ y.cls ≠ "java/lang/invoke/VarHandle")
    {W9 : Nat} {Pre : Pt → Array Value → Prop} {Post : Pt → Array Value → Option Value → Pt → Prop} (hK : Back l R p e below s args y 3 W9 Pre Post)
    {g : JFrame} (hg : g.method = m) (hsize : g.locals.size = c.maxLocals) {argsL rest : List Value} (hlen : ∀ sig, parseMethodDescriptor y.desc = some sig → argsL.length = sig.parameters.length)
    (hstack : g.stack = argsL.reverse ++ rest) (hW : 2 * g.monitorRoom + (rest.map fun v => v.category).sum ≤ W9) (hdg : decode c.code g.pc = .ok (.invokestatic index, 3))
    (hpre : ∀ vm₁, s.WarmedH vm₁ → Pre ⟨T.setVm vm₁, locs, cells, slots⟩ argsL.toArray) :
    ∃ (v : Option Value) (vm₁ : Vm) (B : Pt), s.WarmedH vm₁ ∧ Stand p l e R s m args below meth c B.U B.locs B.cells B.slots ∧ Post ⟨T.setVm vm₁, locs, cells, slots⟩ argsL.toArray v B ∧
      ∀ target, Steps p.tables e below (B.U.setTop { g with pc := g.pc + 3, stack := v.toList ++ rest }) target → Steps p.tables e below (T.setTop g) target := by
  obtain ⟨mk, methM, cM, hnamed, hmethM, -, -, -, -, -, -, hsigM⟩ := Cond.codeWith_spec hcode
  have hstatic : methM.isStatic = true := Cond.static_spec hnamed hmethM hstat
  obtain ⟨kP, hkP, -⟩ := className_of_methodNamed hnamed
  have hinitP : kP.init = .initialized := Cond.initialized_spec (findClass_of_methodNamed hnamed) hkP hinit
  obtain ⟨vm₁, X₁, hstep₁⟩ := X.invokestatic hexec hown hlink hnamed hmethM hstatic hkP hinitP hy (g := g) hg (argsL := argsL) (rest := rest) (hlen _ hsigM) hstack hdg
  obtain ⟨v, B, X', hpost, hsteps⟩ := hK m meth c ⟨T.setVm vm₁, locs, cells, slots⟩ { g with stack := rest } (.invokestatic index) mk argsL.toArray X₁ hg hsize hdg hW (X₁.named hnamed) (hpre vm₁ X₁.warmed)
  exact ⟨v, vm₁, B, X₁.warmed, X', hpost, fun target h => hstep₁ _ fun acts => by rw [doInvoke_state]; exact hsteps.trans h⟩
theorem vx_runSW {y : MethodName} {bytes cc : ByteArray} {maxL nL mc ms n index : Nat} {ret : Option FieldType} {hh : List (Nat × Nat × Nat × Nat)} {ws : List Cond} {rm : Room} {Pc : Array Value → State → Prop} {Qc : Array Value → State → Outcome → State → Prop} {free : Addr → Prop} {Ts : List Cond} {own : String} {As rest : List Value} {g : JFrame}
    (S : CallFix p m c cc nL s args Ts own) (hM : Met l y ws rm Pc Qc mc ms free) (cw : vx_CSW R s args own index y bytes maxL ret hh ws rm mc ms n) (hp : PreS s H Pc As)
    (hg : g.method = m) (hn : As.length = n) (hsize : g.locals.size = nL) (hstack : g.stack = As.reverse ++ rest) (hW : 2 * g.monitorRoom + (rest.map fun v => v.category).sum ≤ 8) (hdg : decode cc g.pc = .ok (.invokestatic index, 3)) (hf : cells + mc ≤ R.cells ∧ slots + ms ≤ R.slots) :
    va_Run p l e R s m args below meth c H locs cells slots mc ms g rest (Qc As.toArray) (free) := by
  obtain ⟨⟨hrc, hrs, hfr, hlo, hws, hcw⟩, hcode, hini, hy, hlen, hl, hstt⟩ := cw
  have hK : Back l R p e below s args y 3 8 (PreOf R mc ms Pc) (PostOf Qc mc ms free) := va_backW (hh := hh) (bytes := bytes) (maxL := maxL) (ret := ret) hM hp.1 hrc hrs hfr hlo hws hcw (fun a' U hW => word_at hW (Or.inl (by first | rfl | simp [Cond.onTables, Cond.keeps, Cond.steady])) hini)
  obtain ⟨hx, hb, hml, ho, -⟩ := S
  intro T hT X
  obtain ⟨v, vm₁, ⟨U', l2, c2, s2⟩, hW₁, X', ⟨g', mk, t, L, e1, e2, hq, h1, hL, h2, h3⟩, st⟩ := vx_callSW X hx (hh := hh) (bytes := bytes) (maxL := maxL) (ret := ret) ho hl hstt hini hcode hy hK hg (hsize.trans hml.symm) (argsL := As) (rest := rest) (fun sig h => hn.trans (hlen sig h)) hstack hW (by rw [hb]; exact hdg)
    (fun vm₁ hW₁ => ⟨hf.1, hf.2, hp.2 (T.setVm vm₁) hT hW₁⟩)
  dsimp only [Pt.U, Pt.locs, Pt.cells, Pt.slots] at X' e1 e2 h1 h2 h3 st
  subst h1; subst h2; subst h3
  exact ⟨v, (T.setVm vm₁).calling g' mk As.toArray, t, U', L, hT, X', hL, e1, e2, hq, st⟩
/-- not caught here, past rows that name other classes: it goes on to the caller -/
theorem vx_outP {p : Program} {l : Launch} {e : Env} {R : Room} {s : State} {m : MethodId} {args : Array Value} {below : List Frame} {meth : Method} {c : Code} {H : Heap} {locs : List Loc} {cells slots : Nat} {free : Addr → Prop} {ls : Array Slot} {rest : List Value} {Qc : Array Value → State → Outcome → State → Prop} {XC : String → State → State → Prop}
    {pc : Nat} {own E : String} {ce : Cell} {q : Addr} {mc ms : Nat} (hown : s.vm.findClass own = some m.cls) (hlocks : meth.locks = false)
    (hpass : ∀ z ∈ c.exceptionTable.toList, covers z pc = false ∨ (z.catchType ≠ 0 ∧ ∃ nm : String, (Cond.classLink own z.catchType nm).before args s = true ∧ va_Nc E nm s)) (hcell : H[q]? = some ce) (hv : ce.vm = .none) (hcl : s.vm.findClass E = some ce.cls)
    (hx : ∀ t : State, t.heap = H → s.vm.Alike t.vm → XC E s t) (hf : ∀ z ∈ locs, free z.base) (hc : cells ≤ mc) (hs : slots ≤ ms) :
    vx_W p l e R s m args below meth c H locs cells slots (vx_MQ below Qc XC args s mc ms free) (F0 m pc ls rest) q := by
  intro T hT X
  have hpl : e.platform.magicAccessors = ({} : Platform).magicAccessors := by rw [X.admits.platform]
  obtain ⟨vm', hW', X', st⟩ := X.outThrough hlocks q (g := F0 m pc ls rest) rfl rfl rfl (cell := ce) (by rw [hT]; exact hcell) (by rw [hv]; rfl)
    (by obtain ⟨k9, h9, -⟩ := Vm.findClass_spec hcl; exact ⟨k9, h9⟩) (fun z hz => by
      rcases hpass z hz with h | ⟨hz0, nm, hl1, hn1⟩
      · exact Or.inl h
      · obtain ⟨c6, hc6, hcl6⟩ := Cond.classLink_spec hown hl1 e.platform hpl
        obtain ⟨a8, b8, h1, h2, h3⟩ := hn1
        cases Option.some.inj (h1.symm.trans hcl)
        cases Option.some.inj (h2.symm.trans hc6)
        exact Or.inr ⟨hz0, _, hcl6, h3⟩)
  obtain ⟨g₀, hfr⟩ := X'.frames_eq
  have hcell9 : ((T.setVm vm').setFrames (.throwing q :: below)).heap[q]? = some ce := by
    show T.heap[q]? = some ce
    rw [hT]; exact hcell
  have hend : Ended ((T.setVm vm').setFrames (.throwing q :: below)) below (.threw q) := State.frames_setFrames _ (State.cur_lt_of_frames hfr)
  refine ⟨(T.setVm vm').setFrames (.throwing q :: below), ?_, .threw q, X'.here.running, hend, Or.inr ⟨q, rfl, E, ce, locs, hx _ hT (X'.ends _).1.alike, hcell9, hv, hcl, (X'.ends _).1, (X'.ends _).2.mono hc hs, hf⟩⟩
  rw [X.pushThrowing_eq]
  exact st
/-- a thing of a world lies in the heap -/
theorem vx_lt {D : va_G} {cl : List vw_C} {ws : va_W} {H1 : Heap} (h : va_P D cl ws H1) {k : Nat} {q : Nat × va_E} (hk : ws[k]? = some q) : q.1 < H1.size := (h k q hk).lt
end VXS
/-! ===== END ===== -/
/-! ===== BEGIN methods with a table of their own: called by a name, returning or throwing ===== -/
section VXH
/-! vx_backW, vx_callVX, vx_callSX, vx_callVW, vx_runVW, vx_runVX, vx_runSX, vx_ofWH follow the same proofs as their sisters above (Free/Laws.lean, Shelf42/LK1.lean); vx_outP calls Shelf42/NT130.lean (outThrough). -/
section
variable {l : Launch} {R : Room} {p : Program} {e : Env} {below : List Frame} {s : State} {sargs : Array Value} {y : MethodName} {len W9 : Nat}
theorem vx_backW {ws : List Cond} {rm : Room} {Pc : Array Value → State → Prop} {Qc : Array Value → State → Outcome → State → Prop} {XC : String → State → State → Prop} {mc ms : Nat} {free : Addr → Prop} {bytes : ByteArray} {maxL : Nat} {ret : Option FieldType} {hh : List (Nat × Nat × Nat × Nat)}
    (hM : vx_Met l y ws rm Pc Qc XC mc ms free) (hblind : FrameBlind Pc) (hrc : rm.cells = mc) (hrs : rm.slots = ms)
    (hframes : rm.frames + 1 ≤ R.frames) (hlocals : W9 + (maxL + 11) + rm.locals ≤ R.locals)
    (hws : ∀ w ∈ ws, ∀ a' U, s.WarmedH U.vm → w.before a' U = true) (hcode : Cond.codeWith y bytes maxL ret hh ∈ ws) (hinit : ∀ a' U, s.WarmedH U.vm → (Cond.initialized y.cls).before a' U = true) :
    vx_Back l R p e below s sargs y len W9 (PreOf R mc ms Pc) (PostOf Qc mc ms free) (vx_Post XC mc ms free) := by
  intro m meth c A g ig mk a X hg hsize hdg hW hn hp
  have h1 : (headSpec ws rm).pre.before a A.U = true := atoms_intro fun w hw => hws w hw _ _ X.warmed
  have h2 : (Cond.codeWith y bytes maxL ret hh).before a A.U = true := hws _ hcode _ _ X.warmed
  have h3 : (Cond.initialized y.cls).before a A.U = true := hinit _ _ X.warmed
  have h4 : A.cells + (headSpec ws rm).room.cells ≤ R.cells := by rw [show (headSpec ws rm).room.cells = mc from hrc]; exact hp.1
  have h5 : A.slots + (headSpec ws rm).room.slots ≤ R.slots := by rw [show (headSpec ws rm).room.slots = ms from hrs]; exact hp.2.1
  have hPc : Pc a (A.U.calling g mk a) := hblind _ _ _ _ hp.2.2
  obtain ⟨U, Ls, c0, s0⟩ := A
  dsimp only [Pt.U, Pt.locs, Pt.cells, Pt.slots] at h1 h2 h3 h4 h5 X hn hPc ⊢
  obtain ⟨m9, methY, cY, hn9, hmY, hcY, -, hlY, -⟩ := Cond.codeWith_spec h2
  cases Option.some.inj (hn9.symm.trans hn)
  obtain ⟨kY, hkY, -⟩ := className_of_methodNamed hn
  have hinitY : kY.init = .initialized := Cond.initialized_spec (findClass_of_methodNamed hn) hkY h3
  have h : At U g.method c below := by rw [hg]; exact X.here
  have hlocals9 : W9 + (maxL + 11) + (headSpec ws rm).room.locals ≤ R.locals := hlocals
  have happ : (headSpec ws rm).appliesLoose y e.platform (U.calling g mk a) = true :=
    Spec.appliesLoose_calling (g := g) h hdg hn hkY hinitY
      (X.room_calling (g := g) (R' := (headSpec ws rm).room) hsize hmY hcY hframes (by rw [hlY]; omega) h4 h5) h1
  obtain ⟨mid, hmid⟩ := h.above
  have hfr : (U.setTop g).frames = (.java g :: mid) ++ below := by rw [State.frames_setTop' g h.top, hmid]; rfl
  obtain ⟨o, s₂, hsteps, -, hend, hq⟩ := Steps.callFree hM p X.admits X.cas X.clock (acts := []) hfr happ hPc trivial
  have hq' : vx_Q Qc XC mc ms free a (U.calling g mk a) o s₂ := hq
  rw [State.frames_setTop' g h.top] at hend
  obtain ⟨g₀, hg0⟩ := Option.isSome_iff_exists.mp h.top
  obtain ⟨r, hr⟩ := State.topJava?_eq_some.mp hg0
  have hr' : (({ U with heap := s₂.heap, slotsUsed := s₂.slotsUsed } : State).setVm s₂.vm).frames = .java g₀ :: r := hr
  rcases hq' with ⟨hqc, L, hfe, hL⟩ | ⟨q, rfl, E, ce, L, hx, hce, hcv, hcl, hW₂, hsm, hL⟩
  · obtain ⟨⟨v, rfl⟩, hW₂, e2, q2, q3, q4, q5, q6⟩ := id hfe
    have e3 : s₂ = ({ (U.calling g mk a).setFrames s₂.frames with heap := s₂.heap, slotsUsed := s₂.slotsUsed } : State).setVm s₂.vm := by
      have : s₂ = ({ s₂ with vm := (U.calling g mk a).vm } : State).setVm s₂.vm := rfl
      rw [e2] at this
      exact this
    obtain ⟨c₂, i₂, len₂, hc₂, hd₂, hf₂⟩ := hend
    have hW' : U.WarmedH s₂.vm := hW₂
    have hcc : c₂ = c := by
      have h1 : s₂.code? g.method = U.code? g.method := by
        rw [State.code?_eq, State.code?_eq, hW'.alike.method?]
      exact Option.some.inj (hc₂.symm.trans (h1.trans h.code))
    subst hcc
    have hlen : len₂ = len := by rw [hdg] at hd₂; cases hd₂; rfl
    subst hlen
    have hs₂ : s₂ = (({ U with heap := s₂.heap, slotsUsed := s₂.slotsUsed } : State).setVm s₂.vm).setTop { g with pc := g.pc + len₂, stack := v.toList ++ g.stack } := by
      refine e3.trans ?_
      rw [hf₂, State.calling_eq h.top, State.setFrames_setFrames, State.setTop_of_frames _ hr', hr]
      rfl
    have hsame : U.sameButNew ({ U with heap := s₂.heap, slotsUsed := s₂.slotsUsed } : State) L mc ms := by
      refine ⟨?_, q2, q3, q4, q5, q6⟩
      obtain ⟨t, ht, -⟩ := State.frames_cons hr
      show ({ U with heap := s₂.heap, slotsUsed := s₂.slotsUsed } : State) = { U.setFrames U.frames with heap := s₂.heap, slotsUsed := s₂.slotsUsed }
      rw [State.setFrames_self ht]
    subst hg
    refine Or.inl ⟨v, ⟨(({ U with heap := s₂.heap, slotsUsed := s₂.slotsUsed } : State).setVm s₂.vm), Ls ++ L, c0 + mc, s0 + ms⟩,
      ⟨X.admits, X.cas, X.clock, X.frames, X.room, X.hears, X.method, X.code, (X.here.setHeapUsed s₂.heap s₂.slotsUsed).setVm hW'.alike, X.tail, State.WarmedH.trans X.warmed hW', X.limits, X.bytes, X.same.trans (hsame.setVm s.vm)⟩,
      ⟨g, mk, s₂, L, rfl, rfl, hqc, rfl, hL, rfl, rfl⟩, ?_⟩
    show Steps p.tables e below _ ((({ U with heap := s₂.heap, slotsUsed := s₂.slotsUsed } : State).setVm s₂.vm).setTop { g with pc := g.pc + len₂, stack := v.toList ++ g.stack })
    rw [← hs₂]
    exact hsteps
  · obtain ⟨e2, q2, q3, q4, q5, q6⟩ := id hsm
    have e3 : s₂ = ({ (U.calling g mk a).setFrames s₂.frames with heap := s₂.heap, slotsUsed := s₂.slotsUsed } : State).setVm s₂.vm := by
      have : s₂ = ({ s₂ with vm := (U.calling g mk a).vm } : State).setVm s₂.vm := rfl
      rw [e2] at this
      exact this
    have hf₂ : s₂.frames = .throwing q :: .java g :: U.frames.tail := hend
    have hW' : U.WarmedH s₂.vm := hW₂
    have hs₂ : s₂ = ((({ U with heap := s₂.heap, slotsUsed := s₂.slotsUsed } : State).setVm s₂.vm).setTop g).pushFrame (.throwing q) := by
      refine e3.trans ?_
      rw [hf₂, State.calling_eq h.top, State.setFrames_setFrames, State.pushFrame, State.frames_setTop _ hr', State.setTop_of_frames _ hr', State.setFrames_setFrames, hr]
      rfl
    have hsame : U.sameButNew ({ U with heap := s₂.heap, slotsUsed := s₂.slotsUsed } : State) L mc ms := by
      refine ⟨?_, q2, q3, q4, q5, q6⟩
      obtain ⟨t, ht, -⟩ := State.frames_cons hr
      show ({ U with heap := s₂.heap, slotsUsed := s₂.slotsUsed } : State) = { U.setFrames U.frames with heap := s₂.heap, slotsUsed := s₂.slotsUsed }
      rw [State.setFrames_self ht]
    subst hg
    refine Or.inr ⟨q, ⟨(({ U with heap := s₂.heap, slotsUsed := s₂.slotsUsed } : State).setVm s₂.vm), Ls ++ L, c0 + mc, s0 + ms⟩,
      ⟨X.admits, X.cas, X.clock, X.frames, X.room, X.hears, X.method, X.code, (X.here.setHeapUsed s₂.heap s₂.slotsUsed).setVm hW'.alike, X.tail, State.WarmedH.trans X.warmed hW', X.limits, X.bytes, X.same.trans (hsame.setVm s.vm)⟩,
      ⟨g, mk, s₂, L, E, ce, rfl, rfl, hx, hce, hcv, hcl, rfl, hL, rfl, rfl⟩, ?_⟩
    show Steps p.tables e below _ (((({ U with heap := s₂.heap, slotsUsed := s₂.slotsUsed } : State).setVm s₂.vm).setTop g).pushFrame (.throwing q))
    rw [← hs₂]
    exact hsteps
end
variable {p : Program} {l : Launch} {e : Env} {R : Room} {s : State} {m : MethodId} {args : Array Value} {below : List Frame} {meth : Method} {c : Code} {T : State} {H : Heap} {locs : List Loc} {cells slots : Nat}
theorem vx_callVX (X : Stand p l e R s m args below meth c T locs cells slots) (hexec : p.tables.exec = Jvm.exec) {own C : String} {index : Nat} {y : MethodName} {bytes : ByteArray} {maxL : Nat} {ret : Option FieldType} {hh : List (Nat × Nat × Nat × Nat)}
    (hown : s.vm.findClass own = some m.cls) (hlink : (Cond.methodLink own index y).before args s = true) (hinst : (Cond.instanceMethod y).before args s = true) (hsel : (Cond.selects C y y).before args s = true)
    (hcode : (Cond.codeWith y bytes maxL ret hh).before args s = true) (hy : y.cls ≠ "java/lang/invoke/MethodHandle" ∧ y.cls ≠ "java/lang/invoke/VarHandle")
    {W9 : Nat} {Pre : Pt → Array Value → Prop} {Post : Pt → Array Value → Option Value → Pt → Prop} {PostX : Pt → Array Value → Addr → Pt → Prop} (hK : vx_Back l R p e below s args y 3 W9 Pre Post PostX)
    {b : Addr} {cellB : Cell} (hcell : T.heap[b]? = some cellB) (hobj : cellB.vm.isStatics = false) (hcls : s.vm.findClass C = some cellB.cls)
    {g : JFrame} (hg : g.method = m) (hsize : g.locals.size = c.maxLocals) {argsL rest : List Value} (hlen : ∀ sig, parseMethodDescriptor y.desc = some sig → argsL.length = sig.parameters.length)
    (hstack : g.stack = argsL.reverse ++ .ref b :: rest) (hW : 2 * g.monitorRoom + (rest.map fun v => v.category).sum ≤ W9) (hdg : decode c.code g.pc = .ok (.invokevirtual index, 3))
    (hpre : ∀ vm₁, s.WarmedH vm₁ → Pre ⟨T.setVm vm₁, locs, cells, slots⟩ (Value.ref b :: argsL).toArray) :
    (∃ (v : Option Value) (vm₁ : Vm) (B : Pt), s.WarmedH vm₁ ∧ Stand p l e R s m args below meth c B.U B.locs B.cells B.slots ∧ Post ⟨T.setVm vm₁, locs, cells, slots⟩ (Value.ref b :: argsL).toArray v B ∧
      ∀ target, Steps p.tables e below (B.U.setTop { g with pc := g.pc + 3, stack := v.toList ++ rest }) target → Steps p.tables e below (T.setTop g) target) ∨
    (∃ (q : Addr) (vm₁ : Vm) (B : Pt), s.WarmedH vm₁ ∧ Stand p l e R s m args below meth c B.U B.locs B.cells B.slots ∧ PostX ⟨T.setVm vm₁, locs, cells, slots⟩ (Value.ref b :: argsL).toArray q B ∧
      Steps p.tables e below (T.setTop g) ((B.U.setTop { g with stack := rest }).pushFrame (.throwing q))) := by
  obtain ⟨mk, methM, hnamed, hmethM, hstM, habM⟩ := Cond.instanceMethod_spec hinst
  obtain ⟨m8, methM', cM, hn8, hmethM', -, -, -, -, -, -, hsigM⟩ := Cond.codeWith_spec hcode
  cases Option.some.inj (hn8.symm.trans hnamed)
  cases hmethM.symm.trans hmethM'
  obtain ⟨c2, r2, m2, q1, q2, q3, q4, kP, hkP, hkPi⟩ := Cond.selects_spec hsel
  cases hcls.symm.trans q1
  cases (State.methodFound?_of_named hnamed hy).symm.trans q2
  cases hnamed.symm.trans q3
  have hselP : selectMethod e.platform s.vm cellB.cls mk = .method mk := by rw [Launch.admits_selectMethod X.admits]; exact q4
  obtain ⟨vm₁, X₁, hstep₁⟩ := X.invokevirtual hexec hown hlink hnamed hmethM hstM hkP hkPi hy (a := b) (cell := cellB) hcell
    (fun z h => by rw [h] at hobj; cases hobj) hselP hmethM habM hkP hkPi (g := g) hg (argsL := argsL) (rest := rest) (hlen _ hsigM) hstack hdg
  rcases hK m meth c ⟨T.setVm vm₁, locs, cells, slots⟩ { g with stack := rest } (.invokevirtual index) mk (Value.ref b :: argsL).toArray X₁ hg hsize hdg hW (X₁.named hnamed) (hpre vm₁ X₁.warmed) with ⟨v, B, X', hpost, hsteps⟩ | ⟨q, B, X', hpost, hsteps⟩
  · exact Or.inl ⟨v, vm₁, B, X₁.warmed, X', hpost, fun target h => hstep₁ _ fun acts => by rw [doInvoke_state]; exact hsteps.trans h⟩
  · exact Or.inr ⟨q, vm₁, B, X₁.warmed, X', hpost, hstep₁ _ fun acts => by rw [doInvoke_state]; exact hsteps⟩
theorem vx_callSX (X : Stand p l e R s m args below meth c T locs cells slots) (hexec : p.tables.exec = Jvm.exec) {own : String} {index : Nat} {y : MethodName} {bytes : ByteArray} {maxL : Nat} {ret : Option FieldType} {hh : List (Nat × Nat × Nat × Nat)}
    (hown : s.vm.findClass own = some m.cls) (hlink : (Cond.methodLink own index y).before args s = true) (hstat : (Cond.static y).before args s = true) (hinit : (Cond.initialized y.cls).before args s = true)
    (hcode : (Cond.codeWith y bytes maxL ret hh).before args s = true) (hy : y.cls ≠ "java/lang/invoke/MethodHandle" ∧ y.cls ≠ "java/lang/invoke/VarHandle")
    {W9 : Nat} {Pre : Pt → Array Value → Prop} {Post : Pt → Array Value → Option Value → Pt → Prop} {PostX : Pt → Array Value → Addr → Pt → Prop} (hK : vx_Back l R p e below s args y 3 W9 Pre Post PostX)
    {g : JFrame} (hg : g.method = m) (hsize : g.locals.size = c.maxLocals) {argsL rest : List Value} (hlen : ∀ sig, parseMethodDescriptor y.desc = some sig → argsL.length = sig.parameters.length)
    (hstack : g.stack = argsL.reverse ++ rest) (hW : 2 * g.monitorRoom + (rest.map fun v => v.category).sum ≤ W9) (hdg : decode c.code g.pc = .ok (.invokestatic index, 3))
    (hpre : ∀ vm₁, s.WarmedH vm₁ → Pre ⟨T.setVm vm₁, locs, cells, slots⟩ argsL.toArray) :
    (∃ (v : Option Value) (vm₁ : Vm) (B : Pt), s.WarmedH vm₁ ∧ Stand p l e R s m args below meth c B.U B.locs B.cells B.slots ∧ Post ⟨T.setVm vm₁, locs, cells, slots⟩ argsL.toArray v B ∧
      ∀ target, Steps p.tables e below (B.U.setTop { g with pc := g.pc + 3, stack := v.toList ++ rest }) target → Steps p.tables e below (T.setTop g) target) ∨
    (∃ (q : Addr) (vm₁ : Vm) (B : Pt), s.WarmedH vm₁ ∧ Stand p l e R s m args below meth c B.U B.locs B.cells B.slots ∧ PostX ⟨T.setVm vm₁, locs, cells, slots⟩ argsL.toArray q B ∧
      Steps p.tables e below (T.setTop g) ((B.U.setTop { g with stack := rest }).pushFrame (.throwing q))) := by
  obtain ⟨mk, methM, cM, hnamed, hmethM, -, -, -, -, -, -, hsigM⟩ := Cond.codeWith_spec hcode
  have hstatic : methM.isStatic = true := Cond.static_spec hnamed hmethM hstat
  obtain ⟨kP, hkP, -⟩ := className_of_methodNamed hnamed
  have hinitP : kP.init = .initialized := Cond.initialized_spec (findClass_of_methodNamed hnamed) hkP hinit
  obtain ⟨vm₁, X₁, hstep₁⟩ := X.invokestatic hexec hown hlink hnamed hmethM hstatic hkP hinitP hy (g := g) hg (argsL := argsL) (rest := rest) (hlen _ hsigM) hstack hdg
  rcases hK m meth c ⟨T.setVm vm₁, locs, cells, slots⟩ { g with stack := rest } (.invokestatic index) mk argsL.toArray X₁ hg hsize hdg hW (X₁.named hnamed) (hpre vm₁ X₁.warmed) with ⟨v, B, X', hpost, hsteps⟩ | ⟨q, B, X', hpost, hsteps⟩
  · exact Or.inl ⟨v, vm₁, B, X₁.warmed, X', hpost, fun target h => hstep₁ _ fun acts => by rw [doInvoke_state]; exact hsteps.trans h⟩
  · exact Or.inr ⟨q, vm₁, B, X₁.warmed, X', hpost, hstep₁ _ fun acts => by rw [doInvoke_state]; exact hsteps⟩
theorem vx_callVW (X : Stand p l e R s m args below meth c T locs cells slots) (hexec : p.tables.exec = Jvm.exec) {own C : String} {index : Nat} {y : MethodName} {bytes : ByteArray} {maxL : Nat} {ret : Option FieldType} {hh : List (Nat × Nat × Nat × Nat)}
    (hown : s.vm.findClass own = some m.cls) (hlink : (Cond.methodLink own index y).before args s = true) (hinst : (Cond.instanceMethod y).before args s = true) (hsel : (Cond.selects C y y).before args s = true)
    (hcode : (Cond.codeWith y bytes maxL ret hh).before args s = true) (hy : y.cls ≠ "java/lang/invoke/MethodHandle" ∧ y.cls ≠ "java/lang/invoke/VarHandle")
    {W9 : Nat} {Pre : Pt → Array Value → Prop} {Post : Pt → Array Value → Option Value → Pt → Prop} (hK : Back l R p e below s args y 3 W9 Pre Post)
    {b : Addr} {cellB : Cell} (hcell : T.heap[b]? = some cellB) (hobj : cellB.vm.isStatics = false) (hcls : s.vm.findClass C = some cellB.cls)
    {g : JFrame} (hg : g.method = m) (hsize : g.locals.size = c.maxLocals) {argsL rest : List Value} (hlen : ∀ sig, parseMethodDescriptor y.desc = some sig → argsL.length = sig.parameters.length)
    (hstack : g.stack = argsL.reverse ++ .ref b :: rest) (hW : 2 * g.monitorRoom + (rest.map fun v => v.category).sum ≤ W9) (hdg : decode c.code g.pc = .ok (.invokevirtual index, 3))
    (hpre : ∀ vm₁, s.WarmedH vm₁ → Pre ⟨T.setVm vm₁, locs, cells, slots⟩ (Value.ref b :: argsL).toArray) :
    ∃ (v : Option Value) (vm₁ : Vm) (B : Pt), s.WarmedH vm₁ ∧ Stand p l e R s m args below meth c B.U B.locs B.cells B.slots ∧ Post ⟨T.setVm vm₁, locs, cells, slots⟩ (Value.ref b :: argsL).toArray v B ∧
      ∀ target, Steps p.tables e below (B.U.setTop { g with pc := g.pc + 3, stack := v.toList ++ rest }) target → Steps p.tables e below (T.setTop g) target := by
  obtain ⟨mk, methM, hnamed, hmethM, hstM, habM⟩ := Cond.instanceMethod_spec hinst
  obtain ⟨m8, methM', cM, hn8, hmethM', -, -, -, -, -, -, hsigM⟩ := Cond.codeWith_spec hcode
  cases Option.some.inj (hn8.symm.trans hnamed)
  cases hmethM.symm.trans hmethM'
  obtain ⟨c2, r2, m2, q1, q2, q3, q4, kP, hkP, hkPi⟩ := Cond.selects_spec hsel
  cases hcls.symm.trans q1
  cases (State.methodFound?_of_named hnamed hy).symm.trans q2
  cases hnamed.symm.trans q3
  have hselP : selectMethod e.platform s.vm cellB.cls mk = .method mk := by rw [Launch.admits_selectMethod X.admits]; exact q4
  obtain ⟨vm₁, X₁, hstep₁⟩ := X.invokevirtual hexec hown hlink hnamed hmethM hstM hkP hkPi hy (a := b) (cell := cellB) hcell
    (fun z h => by rw [h] at hobj; cases hobj) hselP hmethM habM hkP hkPi (g := g) hg (argsL := argsL) (rest := rest) (hlen _ hsigM) hstack hdg
  obtain ⟨v, B, X', hpost, hsteps⟩ := hK m meth c ⟨T.setVm vm₁, locs, cells, slots⟩ { g with stack := rest } (.invokevirtual index) mk (Value.ref b :: argsL).toArray X₁ hg hsize hdg hW (X₁.named hnamed) (hpre vm₁ X₁.warmed)
  exact ⟨v, vm₁, B, X₁.warmed, X', hpost, fun target h => hstep₁ _ fun acts => by rw [doInvoke_state]; exact hsteps.trans h⟩
abbrev vx_CVW (R : Room) (s : State) (args : Array Value) (own C : String) (index : Nat) (y : MethodName) (bytes : ByteArray) (maxL : Nat) (ret : Option FieldType) (hh : List (Nat × Nat × Nat × Nat)) (ws : List Cond) (rm : Room) (mc ms n : Nat) : Prop :=
  (rm.cells = mc ∧ rm.slots = ms ∧ rm.frames + 1 ≤ R.frames ∧ 8 + (maxL + 11) + rm.locals ≤ R.locals ∧ (∀ w ∈ ws, ∀ (a' : Array Value) (U : State), s.WarmedH U.vm → w.before a' U = true) ∧ Cond.codeWith y bytes maxL ret hh ∈ ws) ∧
  (Cond.codeWith y bytes maxL ret hh).before args s = true ∧ (Cond.initialized y.cls).before args s = true ∧ (y.cls ≠ "java/lang/invoke/MethodHandle" ∧ y.cls ≠ "java/lang/invoke/VarHandle") ∧
  (∀ sig, parseMethodDescriptor y.desc = some sig → n = sig.parameters.length) ∧ (Cond.methodLink own index y).before args s = true ∧ (Cond.instanceMethod y).before args s = true ∧ (Cond.selects C y y).before args s = true
theorem vx_cwVW {own C : String} {index maxL mc ms : Nat} {y : MethodName} {bytes : ByteArray} {ret : Option FieldType} {hh : List (Nat × Nat × Nat × Nat)} {Ts ws ws' : List Cond} {rm : Room} (n : Nat) (ht : ∀ w ∈ Ts, w.before args s = true) (hT : GoodIn Ts (wsV own index C y ws)) (hw : ws = Cond.codeWith y bytes maxL ret hh :: ws') (hrc : rm.cells = mc) (hrs : rm.slots = ms)
    (hd : y.cls = C ∧ y.cls ≠ "java/lang/invoke/MethodHandle" ∧ y.cls ≠ "java/lang/invoke/VarHandle" ∧ (parseMethodDescriptor y.desc).map (fun d => d.parameters.length) = some n) (hR : rm.frames + 1 ≤ R.frames ∧ 8 + (maxL + 11) + rm.locals ≤ R.locals) :
    vx_CVW R s args own C index y bytes maxL ret hh ws rm mc ms n := by
  obtain ⟨hC, hd⟩ := hd
  subst hC
  have ok : ∀ w ∈ wsV own index y.cls y ws, w.before args s = true := fun w h => ht w (hT w h).1
  have hG : GoodIn Ts ws := fun w h => hT w (by unfold wsV; exact List.mem_append_right _ h)
  have hc : Cond.codeWith y bytes maxL ret hh ∈ ws := by rw [hw]; exact List.mem_cons_self
  refine ⟨⟨hrc, hrs, hR.1, hR.2, pay_in ht hG, hc⟩, ht _ (hG _ hc).1, ok _ (by simp [wsV]), ⟨hd.1, hd.2.1⟩, fun sig h => ?_, ok _ (by simp [wsV]), ok _ (by simp [wsV]), ok _ (by simp [wsV])⟩
  have h2 := hd.2.2
  rw [h] at h2
  exact (Option.some.inj h2).symm
theorem vx_runVW {y : MethodName} {bytes cc : ByteArray} {maxL nL mc ms n index : Nat} {ret : Option FieldType} {hh : List (Nat × Nat × Nat × Nat)} {ws : List Cond} {rm : Room} {Pc : Array Value → State → Prop} {Qc : Array Value → State → Outcome → State → Prop} {free : Addr → Prop} {Ts : List Cond} {own C : String} {b : Addr} {As rest : List Value} {g : JFrame}
    (S : CallFix p m c cc nL s args Ts own) (hM : Met l y ws rm Pc Qc mc ms free) (cw : vx_CVW R s args own C index y bytes maxL ret hh ws rm mc ms n) (hp : PreV s H C b Pc As)
    (hg : g.method = m) (hn : As.length = n) (hsize : g.locals.size = nL) (hstack : g.stack = As.reverse ++ .ref b :: rest) (hW : 2 * g.monitorRoom + (rest.map fun v => v.category).sum ≤ 8) (hdg : decode cc g.pc = .ok (.invokevirtual index, 3)) (hf : cells + mc ≤ R.cells ∧ slots + ms ≤ R.slots) :
    va_Run p l e R s m args below meth c H locs cells slots mc ms g rest (Qc (Value.ref b :: As).toArray) free := by
  obtain ⟨⟨hrc, hrs, hfr, hlo, hws, hcw⟩, hcode, hini, hy, hlen, hl, hin, hse⟩ := cw
  have hK : Back l R p e below s args y 3 8 (PreOf R mc ms Pc) (PostOf Qc mc ms free) := va_backW (hh := hh) (bytes := bytes) (maxL := maxL) (ret := ret) hM hp.1 hrc hrs hfr hlo hws hcw (fun a' U hW => word_at hW (Or.inl (by first | rfl | simp [Cond.onTables, Cond.keeps, Cond.steady])) hini)
  obtain ⟨hx, hb, hml, ho, -⟩ := S
  obtain ⟨-, ⟨cellB, hcB, hoB, hclB⟩, hPc⟩ := hp
  intro T hT X
  obtain ⟨v, vm₁, ⟨U', l2, c2, s2⟩, hW₁, X', ⟨g', mk, t, L, e1, e2, hq, h1, hL, h2, h3⟩, st⟩ := vx_callVW X hx (C := C) (hh := hh) (bytes := bytes) (maxL := maxL) (ret := ret) ho hl hin hse hcode hy hK (by rw [hT]; exact hcB) hoB hclB hg (hsize.trans hml.symm) (argsL := As) (rest := rest) (fun sig h => hn.trans (hlen sig h)) hstack hW (by rw [hb]; exact hdg)
    (fun vm₁ hW₁ => ⟨hf.1, hf.2, hPc (T.setVm vm₁) hT hW₁⟩)
  dsimp only [Pt.U, Pt.locs, Pt.cells, Pt.slots] at X' e1 e2 h1 h2 h3 st
  subst h1; subst h2; subst h3
  exact ⟨v, (T.setVm vm₁).calling g' mk (Value.ref b :: As).toArray, t, U', L, hT, X', hL, e1, e2, hq, st⟩
section
variable {y : MethodName} {bytes cc : ByteArray} {maxL nL mc ms n index : Nat} {ret : Option FieldType} {ws : List Cond} {rm : Room} {Pc : Array Value → State → Prop} {Qc : Array Value → State → Outcome → State → Prop} {XC : String → State → State → Prop} {free : Addr → Prop} {Ts : List Cond} {own C : String} {b : Addr} {As rest : List Value} {g : JFrame}
theorem vx_runVX {hh : List (Nat × Nat × Nat × Nat)} (S : CallFix p m c cc nL s args Ts own) (hM : vx_Met l y ws rm Pc Qc XC mc ms free) (cw : vx_CVW R s args own C index y bytes maxL ret hh ws rm mc ms n) (hp : PreV s H C b Pc As)
    (hg : g.method = m) (hn : As.length = n) (hsize : g.locals.size = nL) (hstack : g.stack = As.reverse ++ .ref b :: rest) (hW : 2 * g.monitorRoom + (rest.map fun v => v.category).sum ≤ 8) (hdg : decode cc g.pc = .ok (.invokevirtual index, 3)) (hf : cells + mc ≤ R.cells ∧ slots + ms ≤ R.slots) :
    vx_Run p l e R s m args below meth c H locs cells slots mc ms g rest (Qc (Value.ref b :: As).toArray) XC free := by
  obtain ⟨⟨hrc, hrs, hfr, hlo, hws, hcw⟩, hcode, hini, hy, hlen, hl, hin, hse⟩ := cw
  have hK : vx_Back l R p e below s args y 3 8 (PreOf R mc ms Pc) (PostOf Qc mc ms free) (vx_Post XC mc ms free) := vx_backW (hh := hh) (bytes := bytes) (maxL := maxL) (ret := ret) hM hp.1 hrc hrs hfr hlo hws hcw (fun a' U hW => word_at hW (Or.inl (by first | rfl | simp [Cond.onTables, Cond.keeps, Cond.steady])) hini)
  obtain ⟨hx, hb, hml, ho, -⟩ := S
  obtain ⟨-, ⟨cellB, hcB, hoB, hclB⟩, hPc⟩ := hp
  intro T hT X
  rcases vx_callVX X hx (C := C) (hh := hh) (bytes := bytes) (maxL := maxL) (ret := ret) ho hl hin hse hcode hy hK (by rw [hT]; exact hcB) hoB hclB hg (hsize.trans hml.symm) (argsL := As) (rest := rest) (fun sig h => hn.trans (hlen sig h)) hstack hW (by rw [hb]; exact hdg)
    (fun vm₁ hW₁ => ⟨hf.1, hf.2, hPc (T.setVm vm₁) hT hW₁⟩) with ⟨v, vm₁, ⟨U', l2, c2, s2⟩, hW₁, X', ⟨g', mk, t, L, e1, e2, hq, h1, hL, h2, h3⟩, st⟩ | ⟨q, vm₁, ⟨U', l2, c2, s2⟩, hW₁, X', ⟨g', mk, t, L, E, ce, e1, e2, hq, hce, hcv, hcl, h1, hL, h2, h3⟩, st⟩
  · dsimp only [Pt.U, Pt.locs, Pt.cells, Pt.slots] at X' e1 e2 h1 h2 h3 st
    subst h1; subst h2; subst h3
    exact Or.inl ⟨v, (T.setVm vm₁).calling g' mk (Value.ref b :: As).toArray, t, U', L, hT, X', hL, e1, e2, hq, st⟩
  · dsimp only [Pt.U, Pt.locs, Pt.cells, Pt.slots] at X' e1 e2 h1 h2 h3 st hcl
    subst h1; subst h2; subst h3
    exact Or.inr ⟨q, (T.setVm vm₁).calling g' mk (Value.ref b :: As).toArray, t, U', L, E, ce, hT, X', hL, e1, e2, hq, hce, hcv, vx_cls hW₁ hcl, st⟩
theorem vx_runSX {hh : List (Nat × Nat × Nat × Nat)} (S : CallFix p m c cc nL s args Ts own) (hM : vx_Met l y ws rm Pc Qc XC mc ms free) (cw : vx_CSW R s args own index y bytes maxL ret hh ws rm mc ms n) (hp : PreS s H Pc As)
    (hg : g.method = m) (hn : As.length = n) (hsize : g.locals.size = nL) (hstack : g.stack = As.reverse ++ rest) (hW : 2 * g.monitorRoom + (rest.map fun v => v.category).sum ≤ 8) (hdg : decode cc g.pc = .ok (.invokestatic index, 3)) (hf : cells + mc ≤ R.cells ∧ slots + ms ≤ R.slots) :
    vx_Run p l e R s m args below meth c H locs cells slots mc ms g rest (Qc As.toArray) XC free := by
  obtain ⟨⟨hrc, hrs, hfr, hlo, hws, hcw⟩, hcode, hini, hy, hlen, hl, hstt⟩ := cw
  have hK : vx_Back l R p e below s args y 3 8 (PreOf R mc ms Pc) (PostOf Qc mc ms free) (vx_Post XC mc ms free) := vx_backW (hh := hh) (bytes := bytes) (maxL := maxL) (ret := ret) hM hp.1 hrc hrs hfr hlo hws hcw (fun a' U hW => word_at hW (Or.inl (by first | rfl | simp [Cond.onTables, Cond.keeps, Cond.steady])) hini)
  obtain ⟨hx, hb, hml, ho, -⟩ := S
  intro T hT X
  rcases vx_callSX X hx (hh := hh) (bytes := bytes) (maxL := maxL) (ret := ret) ho hl hstt hini hcode hy hK hg (hsize.trans hml.symm) (argsL := As) (rest := rest) (fun sig h => hn.trans (hlen sig h)) hstack hW (by rw [hb]; exact hdg)
    (fun vm₁ hW₁ => ⟨hf.1, hf.2, hp.2 (T.setVm vm₁) hT hW₁⟩) with ⟨v, vm₁, ⟨U', l2, c2, s2⟩, hW₁, X', ⟨g', mk, t, L, e1, e2, hq, h1, hL, h2, h3⟩, st⟩ | ⟨q, vm₁, ⟨U', l2, c2, s2⟩, hW₁, X', ⟨g', mk, t, L, E, ce, e1, e2, hq, hce, hcv, hcl, h1, hL, h2, h3⟩, st⟩
  · dsimp only [Pt.U, Pt.locs, Pt.cells, Pt.slots] at X' e1 e2 h1 h2 h3 st
    subst h1; subst h2; subst h3
    exact Or.inl ⟨v, (T.setVm vm₁).calling g' mk As.toArray, t, U', L, hT, X', hL, e1, e2, hq, st⟩
  · dsimp only [Pt.U, Pt.locs, Pt.cells, Pt.slots] at X' e1 e2 h1 h2 h3 st hcl
    subst h1; subst h2; subst h3
    exact Or.inr ⟨q, (T.setVm vm₁).calling g' mk As.toArray, t, U', L, E, ce, hT, X', hL, e1, e2, hq, hce, hcv, vx_cls hW₁ hcl, st⟩
end
end VXH
theorem vx_ofWH {l : Launch} {y : MethodName} {ws ws' : List Cond} {rm : Room} {Pc : Array Value → State → Prop} {Qc : Array Value → State → Outcome → State → Prop} {XC : String → State → State → Prop} {mc ms : Nat} {free : Addr → Prop} {cc : ByteArray} {maxL : Nat} {ret : Option FieldType} {hh : List (Nat × Nat × Nat × Nat)}
    (hy : plainName y.cls = true) (hw : ws = Cond.codeWith y cc maxL ret hh :: ws')
    (body : ∀ p e s m args below meth c s₁, BodyLoose p l y (headSpec ws rm) cc maxL ret e s m args below meth c s₁ → c.maxLocals = maxL → Pc args s →
      W p l e (headSpec ws rm).room s m args below meth c s.heap [] 0 0 (vx_MQ below Qc XC args s mc ms free) (entryFrame m args maxL)) : vx_Met l y ws rm Pc Qc XC mc ms free := by
  refine MetFree.of_bodyS (code := cc) (maxLocals := maxL) (ret := ret) hy ?_ ?_
  · intro args s m h hn
    obtain ⟨m9, meth, c, hn9, h1, h2, h3, h4, -, h5, h6, -⟩ := Cond.codeWith_spec (atoms_spec (ws := ws) h _ (by rw [hw]; exact List.mem_cons_self))
    cases hn.symm.trans hn9
    exact ⟨meth, c, h1, h2, h3, h4, h5, h6⟩
  · intro p e s m args below meth c s₁ B hml hP _
    have hh0 : s₁.heap = s.heap := by rw [B.state]; rfl
    obtain ⟨t, a1, o, b1, b2, b3⟩ := body p e s m args below meth c s₁ B hml hP s₁ hh0 (Stand.of_body B)
    exact ⟨t, o, a1, b1, b2, b3⟩
/-! ===== END ===== -/

/-! ===== BEGIN printed: names, fields, word lists, decode rows ===== -/
end
section
def RX0 : String := "OasisBooks$Channel"
def TX0 : u_T := fun k => match k with
  | 0 => ("OasisBooks$Channel", "table", "I", false)
  | 1 => ("OasisBooks$Channel", "length", "I", false)
  | 2 => ("OasisBooks$Channel", "mud", "I", false)
  | _ => ("OasisBooks$Channel", "draw", "I", false)
def tyX0 : Nat → FieldType := fun k => match k with
  | 0 => .int
  | 1 => .int
  | 2 => .int
  | _ => .int
abbrev wsX00 : List Cond := u_ws RX0 TX0 4
theorem nmX0 : ∀ a, a < 4 → ∀ b, b < 4 → a ≠ b → (TX0 a).2.1 ≠ (TX0 b).2.1 := by decide +kernel
theorem tyX0_ok : ∀ k, k < 4 → parseFieldDescriptor (TX0 k).2.2.1 = some (tyX0 k) := by decide +kernel
abbrev cX0_init : ByteArray := prog_2_method_1_code
def yX0_init : MethodName := ⟨RX0, "<init>", "()V"⟩
abbrev cX0_becomeLike : ByteArray := prog_2_method_2_code
def yX0_becomeLike : MethodName := ⟨RX0, "becomeLike", "(LOasisBooks$Channel;)V"⟩
abbrev cX0_flow : ByteArray := prog_2_method_3_code
def yX0_flow : MethodName := ⟨RX0, "flow", "()I"⟩
abbrev cX0_letDayGoBy : ByteArray := prog_2_method_4_code
def yX0_letDayGoBy : MethodName := ⟨RX0, "letDayGoBy", "(IZ)V"⟩
abbrev cX0_addMud : ByteArray := prog_2_method_5_code
def yX0_addMud : MethodName := ⟨RX0, "addMud", "(I)V"⟩
def RX1 : String := "OasisBooks$Deals"
def TX1 : u_T := fun k => match k with
  | 0 => ("OasisBooks$Deals", "cells", "[I", true)
  | _ => ("OasisBooks$Deals", "count", "I", false)
def tyX1 : Nat → FieldType := fun k => match k with
  | 0 => .array .int
  | _ => .int
abbrev wsX10 : List Cond := u_ws RX1 TX1 2
theorem nmX1 : ∀ a, a < 2 → ∀ b, b < 2 → a ≠ b → (TX1 a).2.1 ≠ (TX1 b).2.1 := by decide +kernel
theorem tyX1_ok : ∀ k, k < 2 → parseFieldDescriptor (TX1 k).2.2.1 = some (tyX1 k) := by decide +kernel
abbrev cX1_init : ByteArray := prog_3_method_1_code
def yX1_init : MethodName := ⟨RX1, "<init>", "()V"⟩
abbrev cX1_becomeLike : ByteArray := prog_3_method_2_code
def yX1_becomeLike : MethodName := ⟨RX1, "becomeLike", "(LOasisBooks$Deals;)V"⟩
abbrev cX1_get : ByteArray := prog_3_method_3_code
def yX1_get : MethodName := ⟨RX1, "get", "(II)I"⟩
abbrev cX1_set : ByteArray := prog_3_method_4_code
def yX1_set : MethodName := ⟨RX1, "set", "(III)V"⟩
abbrev cX1_count : ByteArray := prog_3_method_5_code
def yX1_count : MethodName := ⟨RX1, "count", "()I"⟩
abbrev cX1_isFull : ByteArray := prog_3_method_6_code
def yX1_isFull : MethodName := ⟨RX1, "isFull", "()Z"⟩
abbrev cX1_add : ByteArray := prog_3_method_7_code
def yX1_add : MethodName := ⟨RX1, "add", "(IIII)V"⟩
abbrev cX1_clear : ByteArray := prog_3_method_8_code
def yX1_clear : MethodName := ⟨RX1, "clear", "()V"⟩
abbrev cX1_amountOf : ByteArray := prog_3_method_9_code
def yX1_amountOf : MethodName := ⟨RX1, "amountOf", "(II)I"⟩
abbrev cX1_shorten : ByteArray := prog_3_method_10_code
def yX1_shorten : MethodName := ⟨RX1, "shorten", "()V"⟩
abbrev cX1_moveTo : ByteArray := prog_3_method_12_code
def yX1_moveTo : MethodName := ⟨RX1, "moveTo", "(II)V"⟩
def RX2 : String := "OasisBooks$Oasis"
def TX2 : u_T := fun k => match k with
  | 0 => ("OasisBooks$Oasis", "channel", "LOasisBooks$Channel;", true)
  | 1 => ("OasisBooks$Oasis", "people", "LOasisBooks$People;", true)
  | 2 => ("OasisBooks$Oasis", "loans", "LOasisBooks$Deals;", true)
  | 3 => ("OasisBooks$Oasis", "sales", "LOasisBooks$Deals;", true)
  | 4 => ("OasisBooks$Oasis", "day", "I", false)
  | 5 => ("OasisBooks$Oasis", "letOut", "I", false)
  | 6 => ("OasisBooks$Oasis", "lost", "I", false)
  | _ => ("OasisBooks$Oasis", "harvested", "I", false)
def tyX2 : Nat → FieldType := fun k => match k with
  | 0 => .object "OasisBooks$Channel"
  | 1 => .object "OasisBooks$People"
  | 2 => .object "OasisBooks$Deals"
  | 3 => .object "OasisBooks$Deals"
  | 4 => .int
  | 5 => .int
  | 6 => .int
  | _ => .int
abbrev wsX20 : List Cond := u_ws RX2 TX2 8
theorem nmX2 : ∀ a, a < 8 → ∀ b, b < 8 → a ≠ b → (TX2 a).2.1 ≠ (TX2 b).2.1 := by decide +kernel
theorem tyX2_ok : ∀ k, k < 8 → parseFieldDescriptor (TX2 k).2.2.1 = some (tyX2 k) := by decide +kernel
abbrev cX2_init : ByteArray := prog_4_method_1_code
def yX2_init : MethodName := ⟨RX2, "<init>", "()V"⟩
abbrev cX2_becomeLike : ByteArray := prog_4_method_2_code
def yX2_becomeLike : MethodName := ⟨RX2, "becomeLike", "(LOasisBooks$Oasis;)V"⟩
abbrev cX2_date : ByteArray := prog_4_method_3_code
def yX2_date : MethodName := ⟨RX2, "date", "()I"⟩
abbrev cX2_daysToHarvest : ByteArray := prog_4_method_4_code
def yX2_daysToHarvest : MethodName := ⟨RX2, "daysToHarvest", "()I"⟩
abbrev cX2_letDaysGoBy : ByteArray := prog_4_method_5_code
def yX2_letDaysGoBy : MethodName := ⟨RX2, "letDaysGoBy", "(II)I"⟩
abbrev cX2_letDayGoBy : ByteArray := prog_4_method_6_code
def yX2_letDayGoBy : MethodName := ⟨RX2, "letDayGoBy", "(I)I"⟩
abbrev cX2_giveWater : ByteArray := prog_4_method_7_code
def yX2_giveWater : MethodName := ⟨RX2, "giveWater", "()I"⟩
abbrev cX2_giveLentWater : ByteArray := prog_4_method_8_code
def yX2_giveLentWater : MethodName := ⟨RX2, "giveLentWater", "(LOasisBooks$Owner;III)I"⟩
abbrev cX2_bowlsOfDay : ByteArray := prog_4_method_9_code
def yX2_bowlsOfDay : MethodName := ⟨RX2, "bowlsOfDay", "(III)I"⟩
abbrev cX2_deliverSales : ByteArray := prog_4_method_10_code
def yX2_deliverSales : MethodName := ⟨RX2, "deliverSales", "()V"⟩
abbrev cX2_unlentBowls : ByteArray := prog_4_method_12_code
def yX2_unlentBowls : MethodName := ⟨RX2, "unlentBowls", "(LOasisBooks$Owner;)I"⟩
abbrev cX2_userOf : ByteArray := prog_4_method_13_code
def yX2_userOf : MethodName := ⟨RX2, "userOf", "(I)I"⟩
abbrev cX2_askOwner : ByteArray := prog_4_method_14_code
def yX2_askOwner : MethodName := ⟨RX2, "askOwner", "(LOasisBooks$Owner;I)I"⟩
abbrev cX2_askAll : ByteArray := prog_4_method_15_code
def yX2_askAll : MethodName := ⟨RX2, "askAll", "(I)I"⟩
def RX3 : String := "OasisBooks$Owner"
def TX3 : u_T := fun k => match k with
  | 0 => ("OasisBooks$Owner", "number", "I", true)
  | 1 => ("OasisBooks$Owner", "lives", "Z", false)
  | 2 => ("OasisBooks$Owner", "bowls", "I", false)
  | 3 => ("OasisBooks$Owner", "coins", "I", false)
  | 4 => ("OasisBooks$Owner", "palms", "I", false)
  | 5 => ("OasisBooks$Owner", "males", "I", false)
  | 6 => ("OasisBooks$Owner", "moist", "I", false)
  | 7 => ("OasisBooks$Owner", "salt", "I", false)
  | 8 => ("OasisBooks$Owner", "dates", "I", false)
  | 9 => ("OasisBooks$Owner", "pollinated", "I", false)
  | 10 => ("OasisBooks$Owner", "boughtPollen", "I", false)
  | 11 => ("OasisBooks$Owner", "flowing", "I", false)
  | 12 => ("OasisBooks$Owner", "cameLatest", "I", false)
  | 13 => ("OasisBooks$Owner", "cameEver", "I", false)
  | _ => ("OasisBooks$Owner", "reaped", "I", false)
def tyX3 : Nat → FieldType := fun k => match k with
  | 0 => .int
  | 1 => .boolean
  | 2 => .int
  | 3 => .int
  | 4 => .int
  | 5 => .int
  | 6 => .int
  | 7 => .int
  | 8 => .int
  | 9 => .int
  | 10 => .int
  | 11 => .int
  | 12 => .int
  | 13 => .int
  | _ => .int
abbrev wsX30 : List Cond := u_ws RX3 TX3 15
theorem nmX3 : ∀ a, a < 15 → ∀ b, b < 15 → a ≠ b → (TX3 a).2.1 ≠ (TX3 b).2.1 := by decide +kernel
theorem tyX3_ok : ∀ k, k < 15 → parseFieldDescriptor (TX3 k).2.2.1 = some (tyX3 k) := by decide +kernel
abbrev cX3_init : ByteArray := prog_5_method_1_code
def yX3_init : MethodName := ⟨RX3, "<init>", "(I)V"⟩
abbrev cX3_becomeLike : ByteArray := prog_5_method_2_code
def yX3_becomeLike : MethodName := ⟨RX3, "becomeLike", "(LOasisBooks$Owner;)V"⟩
abbrev cX3_settle : ByteArray := prog_5_method_3_code
def yX3_settle : MethodName := ⟨RX3, "settle", "(IIII)V"⟩
abbrev cX3_payTo : ByteArray := prog_5_method_6_code
def yX3_payTo : MethodName := ⟨RX3, "payTo", "(LOasisBooks$Owner;I)V"⟩
abbrev cX3_pollenPalms : ByteArray := prog_5_method_7_code
def yX3_pollenPalms : MethodName := ⟨RX3, "pollenPalms", "()I"⟩
abbrev cX3_takeFlowing : ByteArray := prog_5_method_8_code
def yX3_takeFlowing : MethodName := ⟨RX3, "takeFlowing", "(I)V"⟩
abbrev cX3_growPalms : ByteArray := prog_5_method_9_code
def yX3_growPalms : MethodName := ⟨RX3, "growPalms", "(Z)V"⟩
abbrev cX3_reap : ByteArray := prog_5_method_10_code
def yX3_reap : MethodName := ⟨RX3, "reap", "()V"⟩
def RX4 : String := "OasisBooks$People"
def TX4 : u_T := fun k => match k with
  | 0 => ("OasisBooks$People", "owners", "[LOasisBooks$Owner;", true)
  | 1 => ("OasisBooks$People", "row", "[I", true)
  | 2 => ("OasisBooks$People", "nobody", "LOasisBooks$Owner;", true)
  | 3 => ("OasisBooks$People", "ever", "I", false)
  | _ => ("OasisBooks$People", "living", "I", false)
def tyX4 : Nat → FieldType := fun k => match k with
  | 0 => .array (.object "OasisBooks$Owner")
  | 1 => .array .int
  | 2 => .object "OasisBooks$Owner"
  | 3 => .int
  | _ => .int
abbrev wsX40 : List Cond := u_ws RX4 TX4 5
theorem nmX4 : ∀ a, a < 5 → ∀ b, b < 5 → a ≠ b → (TX4 a).2.1 ≠ (TX4 b).2.1 := by decide +kernel
theorem tyX4_ok : ∀ k, k < 5 → parseFieldDescriptor (TX4 k).2.2.1 = some (tyX4 k) := by decide +kernel
abbrev cX4_init : ByteArray := prog_6_method_1_code
def yX4_init : MethodName := ⟨RX4, "<init>", "()V"⟩
abbrev cX4_becomeLike : ByteArray := prog_6_method_2_code
def yX4_becomeLike : MethodName := ⟨RX4, "becomeLike", "(LOasisBooks$People;)V"⟩
abbrev cX4_numbered : ByteArray := prog_6_method_3_code
def yX4_numbered : MethodName := ⟨RX4, "numbered", "(I)LOasisBooks$Owner;"⟩
abbrev cX4_standing : ByteArray := prog_6_method_4_code
def yX4_standing : MethodName := ⟨RX4, "standing", "(I)LOasisBooks$Owner;"⟩
abbrev cX4_putAt : ByteArray := prog_6_method_5_code
def yX4_putAt : MethodName := ⟨RX4, "putAt", "(II)V"⟩
abbrev cX4_isLiving : ByteArray := prog_6_method_6_code
def yX4_isLiving : MethodName := ⟨RX4, "isLiving", "(I)Z"⟩
abbrev cX4_countLiving : ByteArray := prog_6_method_7_code
def yX4_countLiving : MethodName := ⟨RX4, "countLiving", "()I"⟩
abbrev cX4_countEver : ByteArray := prog_6_method_8_code
def yX4_countEver : MethodName := ⟨RX4, "countEver", "()I"⟩
abbrev cX4_hasRoomFor : ByteArray := prog_6_method_9_code
def yX4_hasRoomFor : MethodName := ⟨RX4, "hasRoomFor", "(I)Z"⟩
abbrev cX4_addLast : ByteArray := prog_6_method_10_code
def yX4_addLast : MethodName := ⟨RX4, "addLast", "(IIII)I"⟩
abbrev cX4_placeOf : ByteArray := prog_6_method_12_code
def yX4_placeOf : MethodName := ⟨RX4, "placeOf", "(LOasisBooks$Owner;)I"⟩
abbrev cX4_firstBowl : ByteArray := prog_6_method_13_code
def yX4_firstBowl : MethodName := ⟨RX4, "firstBowl", "(LOasisBooks$Owner;)I"⟩
abbrev cX4_holderOf : ByteArray := prog_6_method_14_code
def yX4_holderOf : MethodName := ⟨RX4, "holderOf", "(I)I"⟩
abbrev cX4_ownedBowls : ByteArray := prog_6_method_15_code
def yX4_ownedBowls : MethodName := ⟨RX4, "ownedBowls", "()I"⟩
abbrev cX4_commonBowls : ByteArray := prog_6_method_16_code
def yX4_commonBowls : MethodName := ⟨RX4, "commonBowls", "()I"⟩
abbrev cX4_sumOfCoins : ByteArray := prog_6_method_17_code
def yX4_sumOfCoins : MethodName := ⟨RX4, "sumOfCoins", "()I"⟩
abbrev cX4_shareCost : ByteArray := prog_6_method_19_code
def yX4_shareCost : MethodName := ⟨RX4, "shareCost", "(I)V"⟩
abbrev cX4_growPalms : ByteArray := prog_6_method_20_code
def yX4_growPalms : MethodName := ⟨RX4, "growPalms", "(Z)V"⟩
abbrev cX4_reap : ByteArray := prog_6_method_21_code
def yX4_reap : MethodName := ⟨RX4, "reap", "()I"⟩
def RX5 : String := "OasisBooks"
def TX5 : u_T := fun k => match k with
  | 0 => ("OasisBooks", "now", "LOasisBooks$Oasis;", true)
  | 1 => ("OasisBooks", "later", "LOasisBooks$Oasis;", true)
  | _ => ("OasisBooks", "atHarvest", "LOasisBooks$Oasis;", true)
def tyX5 : Nat → FieldType := fun k => match k with
  | 0 => .object "OasisBooks$Oasis"
  | 1 => .object "OasisBooks$Oasis"
  | _ => .object "OasisBooks$Oasis"
abbrev wsX50 : List Cond := u_ws RX5 TX5 3
theorem nmX5 : ∀ a, a < 3 → ∀ b, b < 3 → a ≠ b → (TX5 a).2.1 ≠ (TX5 b).2.1 := by decide +kernel
theorem tyX5_ok : ∀ k, k < 3 → parseFieldDescriptor (TX5 k).2.2.1 = some (tyX5 k) := by decide +kernel
abbrev cX5_init : ByteArray := prog_1_method_1_code
def yX5_init : MethodName := ⟨RX5, "<init>", "()V"⟩
abbrev cX5_owner : ByteArray := prog_1_method_2_code
def yX5_owner : MethodName := ⟨RX5, "owner", "(IIII)I"⟩
abbrev cX5_sell : ByteArray := prog_1_method_3_code
def yX5_sell : MethodName := ⟨RX5, "sell", "(IIII)I"⟩
abbrev cX5_lend : ByteArray := prog_1_method_4_code
def yX5_lend : MethodName := ⟨RX5, "lend", "(IIII)I"⟩
abbrev cX5_dig : ByteArray := prog_1_method_6_code
def yX5_dig : MethodName := ⟨RX5, "dig", "(I)I"⟩
abbrev cX5_pump : ByteArray := prog_1_method_9_code
def yX5_pump : MethodName := ⟨RX5, "pump", "(I)I"⟩
abbrev cX5_pollinate : ByteArray := prog_1_method_10_code
def yX5_pollinate : MethodName := ⟨RX5, "pollinate", "(II)I"⟩
abbrev cX5_pass : ByteArray := prog_1_method_13_code
def yX5_pass : MethodName := ⟨RX5, "pass", "(II)I"⟩
abbrev cX5_of : ByteArray := prog_1_method_14_code
def yX5_of : MethodName := ⟨RX5, "of", "(II)I"⟩
abbrev cX5_ofBowl : ByteArray := prog_1_method_15_code
def yX5_ofBowl : MethodName := ⟨RX5, "ofBowl", "(II)I"⟩
abbrev cX5_ofLoan : ByteArray := prog_1_method_16_code
def yX5_ofLoan : MethodName := ⟨RX5, "ofLoan", "(II)I"⟩
abbrev cX5_ofSale : ByteArray := prog_1_method_17_code
def yX5_ofSale : MethodName := ⟨RX5, "ofSale", "(II)I"⟩
abbrev cX5_many : ByteArray := prog_1_method_18_code
def yX5_many : MethodName := ⟨RX5, "many", "(I)I"⟩
abbrev cX5_wouldCome : ByteArray := prog_1_method_20_code
def yX5_wouldCome : MethodName := ⟨RX5, "wouldCome", "(III)I"⟩
abbrev cX5_bestDig : ByteArray := prog_1_method_21_code
def yX5_bestDig : MethodName := ⟨RX5, "bestDig", "(II)I"⟩
abbrev cX5_pumpTakes : ByteArray := prog_1_method_22_code
def yX5_pumpTakes : MethodName := ⟨RX5, "pumpTakes", "(III)I"⟩
abbrev cX5_wouldReap : ByteArray := prog_1_method_23_code
def yX5_wouldReap : MethodName := ⟨RX5, "wouldReap", "(II)I"⟩
abbrev cX5_digest : ByteArray := prog_1_method_24_code
def yX5_digest : MethodName := ⟨RX5, "digest", "()J"⟩
abbrev cX5_digestOwners : ByteArray := prog_1_method_25_code
def yX5_digestOwners : MethodName := ⟨RX5, "digestOwners", "(J)J"⟩
abbrev cX5_imagineLater : ByteArray := prog_1_method_26_code
def yX5_imagineLater : MethodName := ⟨RX5, "imagineLater", "(II)V"⟩
abbrev cX5_cameUntilLater : ByteArray := prog_1_method_27_code
def yX5_cameUntilLater : MethodName := ⟨RX5, "cameUntilLater", "(I)I"⟩
abbrev cX5_imagineHarvest : ByteArray := prog_1_method_28_code
def yX5_imagineHarvest : MethodName := ⟨RX5, "imagineHarvest", "(I)V"⟩
abbrev cX5_reapedAtHarvest : ByteArray := prog_1_method_29_code
def yX5_reapedAtHarvest : MethodName := ⟨RX5, "reapedAtHarvest", "(I)I"⟩
abbrev cX5_isWithin : ByteArray := prog_1_method_30_code
def yX5_isWithin : MethodName := ⟨RX5, "isWithin", "(III)Z"⟩
abbrev cX5_mustBeRight : ByteArray := prog_1_method_31_code
def yX5_mustBeRight : MethodName := ⟨RX5, "mustBeRight", "(Z)V"⟩
abbrev cX5_mustBePossible : ByteArray := prog_1_method_32_code
def yX5_mustBePossible : MethodName := ⟨RX5, "mustBePossible", "(Z)V"⟩
abbrev cX5_mustExist : ByteArray := prog_1_method_33_code
def yX5_mustExist : MethodName := ⟨RX5, "mustExist", "(Z)V"⟩
abbrev cX5_mustLive : ByteArray := prog_1_method_34_code
def yX5_mustLive : MethodName := ⟨RX5, "mustLive", "(I)V"⟩
def RX6 : String := "OasisBooksLaw$Told"
def TX6 : u_T := fun k => match k with
  | 0 => ("OasisBooksLaw$Told", "m", "LOasisBooks;", true)
  | 1 => ("OasisBooksLaw$Told", "s", "[I", true)
  | 2 => ("OasisBooksLaw$Told", "draws", "I", false)
  | 3 => ("OasisBooksLaw$Told", "o", "[[I", true)
  | 4 => ("OasisBooksLaw$Told", "ever", "I", false)
  | 5 => ("OasisBooksLaw$Told", "row", "[I", false)
  | 6 => ("OasisBooksLaw$Told", "whose", "[I", true)
  | 7 => ("OasisBooksLaw$Told", "users", "[I", true)
  | 8 => ("OasisBooksLaw$Told", "loans", "[[I", false)
  | 9 => ("OasisBooksLaw$Told", "sales", "[[I", false)
  | 10 => ("OasisBooksLaw$Told", "day", "I", false)
  | 11 => ("OasisBooksLaw$Told", "table", "I", false)
  | 12 => ("OasisBooksLaw$Told", "length", "I", false)
  | 13 => ("OasisBooksLaw$Told", "mud", "I", false)
  | 14 => ("OasisBooksLaw$Told", "draw", "I", false)
  | 15 => ("OasisBooksLaw$Told", "letOut", "I", false)
  | 16 => ("OasisBooksLaw$Told", "lost", "I", false)
  | _ => ("OasisBooksLaw$Told", "reaped", "I", false)
def tyX6 : Nat → FieldType := fun k => match k with
  | 0 => .object "OasisBooks"
  | 1 => .array .int
  | 2 => .int
  | 3 => .array (.array .int)
  | 4 => .int
  | 5 => .array .int
  | 6 => .array .int
  | 7 => .array .int
  | 8 => .array (.array .int)
  | 9 => .array (.array .int)
  | 10 => .int
  | 11 => .int
  | 12 => .int
  | 13 => .int
  | 14 => .int
  | 15 => .int
  | 16 => .int
  | _ => .int
abbrev wsX60 : List Cond := u_ws RX6 TX6 18
theorem nmX6 : ∀ a, a < 18 → ∀ b, b < 18 → a ≠ b → (TX6 a).2.1 ≠ (TX6 b).2.1 := by decide +kernel
theorem tyX6_ok : ∀ k, k < 18 → parseFieldDescriptor (TX6 k).2.2.1 = some (tyX6 k) := by decide +kernel
abbrev cX6_init : ByteArray := prog_8_method_1_code
def yX6_init : MethodName := ⟨RX6, "<init>", "([II)V"⟩
abbrev cX6_draw : ByteArray := prog_8_method_2_code
def yX6_draw : MethodName := ⟨RX6, "draw", "(I)I"⟩
abbrev cX6_owner : ByteArray := prog_8_method_4_code
def yX6_owner : MethodName := ⟨RX6, "owner", "(IIII)Z"⟩
abbrev cX6_found : ByteArray := prog_8_method_13_code
def yX6_found : MethodName := ⟨RX6, "found", "(I)Z"⟩
def RX7 : String := "OasisBooksModel$Oasis"
def TX7 : u_T := fun k => match k with
  | _ => ("", "", "", false)
def tyX7 : Nat → FieldType := fun k => match k with
  | _ => .int
abbrev wsX70 : List Cond := u_ws RX7 TX7 0
theorem nmX7 : ∀ a, a < 0 → ∀ b, b < 0 → a ≠ b → (TX7 a).2.1 ≠ (TX7 b).2.1 := by decide +kernel
theorem tyX7_ok : ∀ k, k < 0 → parseFieldDescriptor (TX7 k).2.2.1 = some (tyX7 k) := by decide +kernel
def RX8 : String := "OasisBooksModel"
def TX8 : u_T := fun k => match k with
  | _ => ("", "", "", false)
def tyX8 : Nat → FieldType := fun k => match k with
  | _ => .int
abbrev wsX80 : List Cond := u_ws RX8 TX8 0
theorem nmX8 : ∀ a, a < 0 → ∀ b, b < 0 → a ≠ b → (TX8 a).2.1 ≠ (TX8 b).2.1 := by decide +kernel
theorem tyX8_ok : ∀ k, k < 0 → parseFieldDescriptor (TX8 k).2.2.1 = some (tyX8 k) := by decide +kernel
def RJ9 : String := "java/lang/Math"
def TJ9 : u_T := fun k => match k with
  | _ => ("", "", "", false)
def tyJ9 : Nat → FieldType := fun k => match k with
  | _ => .int
abbrev wsJ90 : List Cond := u_ws RJ9 TJ9 0
theorem nmJ9 : ∀ a, a < 0 → ∀ b, b < 0 → a ≠ b → (TJ9 a).2.1 ≠ (TJ9 b).2.1 := by decide +kernel
theorem tyJ9_ok : ∀ k, k < 0 → parseFieldDescriptor (TJ9 k).2.2.1 = some (tyJ9 k) := by decide +kernel
abbrev cJ9_max_7cf53 : ByteArray := prog_15_method_65_code
def yJ9_max_7cf53 : MethodName := ⟨RJ9, "max", "(II)I"⟩
abbrev cJ9_min_7cf53 : ByteArray := prog_15_method_69_code
def yJ9_min_7cf53 : MethodName := ⟨RJ9, "min", "(II)I"⟩
def RJ10 : String := "java/lang/System"
def TJ10 : u_T := fun k => match k with
  | _ => ("", "", "", false)
def tyJ10 : Nat → FieldType := fun k => match k with
  | _ => .int
abbrev wsJ100 : List Cond := u_ws RJ10 TJ10 0
theorem nmJ10 : ∀ a, a < 0 → ∀ b, b < 0 → a ≠ b → (TJ10 a).2.1 ≠ (TJ10 b).2.1 := by decide +kernel
theorem tyJ10_ok : ∀ k, k < 0 → parseFieldDescriptor (TJ10 k).2.2.1 = some (tyJ10 k) := by decide +kernel
def RL : String := "OasisBooksLaw"
abbrev cL_below : ByteArray := method_2_code
def yL_below : MethodName := ⟨RL, "below", "(II)I"⟩
abbrev cL_cell : ByteArray := method_3_code
def yL_cell : MethodName := ⟨RL, "cell", "([II)I"⟩
abbrev cL_law : ByteArray := code
def yL_law : MethodName := ⟨RL, "law", "([I)Z"⟩
abbrev cL_all : ByteArray := method_5_code
def yL_all : MethodName := ⟨RL, "all", "(LOasisBooks;II)I"⟩
abbrev cL_isBest : ByteArray := method_6_code
def yL_isBest : MethodName := ⟨RL, "isBest", "([II)Z"⟩
abbrev vwCl : List vw_C := [(RX0, TX0, 4), (RX1, TX1, 2), (RX2, TX2, 8), (RX3, TX3, 15), (RX4, TX4, 5), (RX5, TX5, 3), (RX6, TX6, 18)]
end
section
theorem dX0_init_0 : decode cX0_init 0 = .ok (.aload_n 0, 1) := by decide +kernel
theorem dX0_init_1 : decode cX0_init 1 = .ok (.invokespecial 3, 3) := by decide +kernel
theorem dX0_init_4 : decode cX0_init 4 = .ok (.aload_n 0, 1) := by decide +kernel
theorem dX0_init_5 : decode cX0_init 5 = .ok (.sipush 200, 3) := by decide +kernel
theorem dX0_init_8 : decode cX0_init 8 = .ok (.putfield 9, 3) := by decide +kernel
theorem dX0_init_11 : decode cX0_init 11 = .ok (.aload_n 0, 1) := by decide +kernel
theorem dX0_init_12 : decode cX0_init 12 = .ok (.bipush 40, 2) := by decide +kernel
theorem dX0_init_14 : decode cX0_init 14 = .ok (.putfield 15, 3) := by decide +kernel
theorem dX0_init_17 : decode cX0_init 17 = .ok (.return_, 1) := by decide +kernel
theorem dX0_becomeLike_0 : decode cX0_becomeLike 0 = .ok (.aload_n 0, 1) := by decide +kernel
theorem dX0_becomeLike_1 : decode cX0_becomeLike 1 = .ok (.aload_n 1, 1) := by decide +kernel
theorem dX0_becomeLike_2 : decode cX0_becomeLike 2 = .ok (.getfield 9, 3) := by decide +kernel
theorem dX0_becomeLike_5 : decode cX0_becomeLike 5 = .ok (.putfield 9, 3) := by decide +kernel
theorem dX0_becomeLike_8 : decode cX0_becomeLike 8 = .ok (.aload_n 0, 1) := by decide +kernel
theorem dX0_becomeLike_9 : decode cX0_becomeLike 9 = .ok (.aload_n 1, 1) := by decide +kernel
theorem dX0_becomeLike_10 : decode cX0_becomeLike 10 = .ok (.getfield 15, 3) := by decide +kernel
theorem dX0_becomeLike_13 : decode cX0_becomeLike 13 = .ok (.putfield 15, 3) := by decide +kernel
theorem dX0_becomeLike_16 : decode cX0_becomeLike 16 = .ok (.aload_n 0, 1) := by decide +kernel
theorem dX0_becomeLike_17 : decode cX0_becomeLike 17 = .ok (.aload_n 1, 1) := by decide +kernel
theorem dX0_becomeLike_18 : decode cX0_becomeLike 18 = .ok (.getfield 18, 3) := by decide +kernel
theorem dX0_becomeLike_21 : decode cX0_becomeLike 21 = .ok (.putfield 18, 3) := by decide +kernel
theorem dX0_becomeLike_24 : decode cX0_becomeLike 24 = .ok (.aload_n 0, 1) := by decide +kernel
theorem dX0_becomeLike_25 : decode cX0_becomeLike 25 = .ok (.aload_n 1, 1) := by decide +kernel
theorem dX0_becomeLike_26 : decode cX0_becomeLike 26 = .ok (.getfield 21, 3) := by decide +kernel
theorem dX0_becomeLike_29 : decode cX0_becomeLike 29 = .ok (.putfield 21, 3) := by decide +kernel
theorem dX0_becomeLike_32 : decode cX0_becomeLike 32 = .ok (.return_, 1) := by decide +kernel
theorem dX0_flow_0 : decode cX0_flow 0 = .ok (.iconst 0, 1) := by decide +kernel
theorem dX0_flow_1 : decode cX0_flow 1 = .ok (.aload_n 0, 1) := by decide +kernel
theorem dX0_flow_2 : decode cX0_flow 2 = .ok (.getfield 9, 3) := by decide +kernel
theorem dX0_flow_5 : decode cX0_flow 5 = .ok (.aload_n 0, 1) := by decide +kernel
theorem dX0_flow_6 : decode cX0_flow 6 = .ok (.getfield 15, 3) := by decide +kernel
theorem dX0_flow_9 : decode cX0_flow 9 = .ok (.iadd, 1) := by decide +kernel
theorem dX0_flow_10 : decode cX0_flow 10 = .ok (.bipush 120, 2) := by decide +kernel
theorem dX0_flow_12 : decode cX0_flow 12 = .ok (.isub, 1) := by decide +kernel
theorem dX0_flow_13 : decode cX0_flow 13 = .ok (.iconst 2, 1) := by decide +kernel
theorem dX0_flow_14 : decode cX0_flow 14 = .ok (.aload_n 0, 1) := by decide +kernel
theorem dX0_flow_15 : decode cX0_flow 15 = .ok (.getfield 18, 3) := by decide +kernel
theorem dX0_flow_18 : decode cX0_flow 18 = .ok (.imul, 1) := by decide +kernel
theorem dX0_flow_19 : decode cX0_flow 19 = .ok (.isub, 1) := by decide +kernel
theorem dX0_flow_20 : decode cX0_flow 20 = .ok (.bipush 10, 2) := by decide +kernel
theorem dX0_flow_22 : decode cX0_flow 22 = .ok (.idiv, 1) := by decide +kernel
theorem dX0_flow_23 : decode cX0_flow 23 = .ok (.invokestatic 24, 3) := by decide +kernel
theorem dX0_flow_26 : decode cX0_flow 26 = .ok (.ireturn, 1) := by decide +kernel
theorem dX0_letDayGoBy_0 : decode cX0_letDayGoBy 0 = .ok (.aload_n 0, 1) := by decide +kernel
theorem dX0_letDayGoBy_1 : decode cX0_letDayGoBy 1 = .ok (.iconst 0, 1) := by decide +kernel
theorem dX0_letDayGoBy_2 : decode cX0_letDayGoBy 2 = .ok (.sipush 400, 3) := by decide +kernel
theorem dX0_letDayGoBy_5 : decode cX0_letDayGoBy 5 = .ok (.aload_n 0, 1) := by decide +kernel
theorem dX0_letDayGoBy_6 : decode cX0_letDayGoBy 6 = .ok (.getfield 9, 3) := by decide +kernel
theorem dX0_letDayGoBy_9 : decode cX0_letDayGoBy 9 = .ok (.iload_n 1, 1) := by decide +kernel
theorem dX0_letDayGoBy_10 : decode cX0_letDayGoBy 10 = .ok (.iconst 3, 1) := by decide +kernel
theorem dX0_letDayGoBy_11 : decode cX0_letDayGoBy 11 = .ok (.idiv, 1) := by decide +kernel
theorem dX0_letDayGoBy_12 : decode cX0_letDayGoBy 12 = .ok (.iadd, 1) := by decide +kernel
theorem dX0_letDayGoBy_13 : decode cX0_letDayGoBy 13 = .ok (.aload_n 0, 1) := by decide +kernel
theorem dX0_letDayGoBy_14 : decode cX0_letDayGoBy 14 = .ok (.invokevirtual 30, 3) := by decide +kernel
theorem dX0_letDayGoBy_17 : decode cX0_letDayGoBy 17 = .ok (.isub, 1) := by decide +kernel
theorem dX0_letDayGoBy_18 : decode cX0_letDayGoBy 18 = .ok (.aload_n 0, 1) := by decide +kernel
theorem dX0_letDayGoBy_19 : decode cX0_letDayGoBy 19 = .ok (.getfield 21, 3) := by decide +kernel
theorem dX0_letDayGoBy_22 : decode cX0_letDayGoBy 22 = .ok (.isub, 1) := by decide +kernel
theorem dX0_letDayGoBy_23 : decode cX0_letDayGoBy 23 = .ok (.invokestatic 34, 3) := by decide +kernel
theorem dX0_letDayGoBy_26 : decode cX0_letDayGoBy 26 = .ok (.invokestatic 24, 3) := by decide +kernel
theorem dX0_letDayGoBy_29 : decode cX0_letDayGoBy 29 = .ok (.putfield 9, 3) := by decide +kernel
theorem dX0_letDayGoBy_32 : decode cX0_letDayGoBy 32 = .ok (.iload_n 2, 1) := by decide +kernel
theorem dX0_letDayGoBy_33 : decode cX0_letDayGoBy 33 = .ok (.ifCond .eq 8, 3) := by decide +kernel
theorem dX0_letDayGoBy_36 : decode cX0_letDayGoBy 36 = .ok (.aload_n 0, 1) := by decide +kernel
theorem dX0_letDayGoBy_37 : decode cX0_letDayGoBy 37 = .ok (.iconst 1, 1) := by decide +kernel
theorem dX0_letDayGoBy_38 : decode cX0_letDayGoBy 38 = .ok (.invokevirtual 37, 3) := by decide +kernel
theorem dX0_letDayGoBy_41 : decode cX0_letDayGoBy 41 = .ok (.return_, 1) := by decide +kernel
theorem dX0_addMud_0 : decode cX0_addMud 0 = .ok (.aload_n 0, 1) := by decide +kernel
theorem dX0_addMud_1 : decode cX0_addMud 1 = .ok (.bipush 30, 2) := by decide +kernel
theorem dX0_addMud_3 : decode cX0_addMud 3 = .ok (.aload_n 0, 1) := by decide +kernel
theorem dX0_addMud_4 : decode cX0_addMud 4 = .ok (.getfield 18, 3) := by decide +kernel
theorem dX0_addMud_7 : decode cX0_addMud 7 = .ok (.iload_n 1, 1) := by decide +kernel
theorem dX0_addMud_8 : decode cX0_addMud 8 = .ok (.iadd, 1) := by decide +kernel
theorem dX0_addMud_9 : decode cX0_addMud 9 = .ok (.invokestatic 34, 3) := by decide +kernel
theorem dX0_addMud_12 : decode cX0_addMud 12 = .ok (.putfield 18, 3) := by decide +kernel
theorem dX0_addMud_15 : decode cX0_addMud 15 = .ok (.return_, 1) := by decide +kernel
theorem dX1_init_0 : decode cX1_init 0 = .ok (.aload_n 0, 1) := by decide +kernel
theorem dX1_init_1 : decode cX1_init 1 = .ok (.invokespecial 3, 3) := by decide +kernel
theorem dX1_init_4 : decode cX1_init 4 = .ok (.aload_n 0, 1) := by decide +kernel
theorem dX1_init_5 : decode cX1_init 5 = .ok (.bipush 32, 2) := by decide +kernel
theorem dX1_init_7 : decode cX1_init 7 = .ok (.newarray .int, 2) := by decide +kernel
theorem dX1_init_9 : decode cX1_init 9 = .ok (.putfield 11, 3) := by decide +kernel
theorem dX1_init_12 : decode cX1_init 12 = .ok (.return_, 1) := by decide +kernel
theorem dX1_becomeLike_0 : decode cX1_becomeLike 0 = .ok (.aload_n 0, 1) := by decide +kernel
theorem dX1_becomeLike_1 : decode cX1_becomeLike 1 = .ok (.aload_n 1, 1) := by decide +kernel
theorem dX1_becomeLike_2 : decode cX1_becomeLike 2 = .ok (.getfield 15, 3) := by decide +kernel
theorem dX1_becomeLike_5 : decode cX1_becomeLike 5 = .ok (.putfield 15, 3) := by decide +kernel
theorem dX1_becomeLike_8 : decode cX1_becomeLike 8 = .ok (.iconst 0, 1) := by decide +kernel
theorem dX1_becomeLike_9 : decode cX1_becomeLike 9 = .ok (.istore_n 2, 1) := by decide +kernel
theorem dX1_becomeLike_10 : decode cX1_becomeLike 10 = .ok (.iload_n 2, 1) := by decide +kernel
theorem dX1_becomeLike_11 : decode cX1_becomeLike 11 = .ok (.aload_n 0, 1) := by decide +kernel
theorem dX1_becomeLike_12 : decode cX1_becomeLike 12 = .ok (.getfield 15, 3) := by decide +kernel
theorem dX1_becomeLike_15 : decode cX1_becomeLike 15 = .ok (.if_icmp .ge 34, 3) := by decide +kernel
theorem dX1_becomeLike_18 : decode cX1_becomeLike 18 = .ok (.iconst 0, 1) := by decide +kernel
theorem dX1_becomeLike_19 : decode cX1_becomeLike 19 = .ok (.istore_n 3, 1) := by decide +kernel
theorem dX1_becomeLike_20 : decode cX1_becomeLike 20 = .ok (.iload_n 3, 1) := by decide +kernel
theorem dX1_becomeLike_21 : decode cX1_becomeLike 21 = .ok (.iconst 4, 1) := by decide +kernel
theorem dX1_becomeLike_22 : decode cX1_becomeLike 22 = .ok (.if_icmp .ge 21, 3) := by decide +kernel
theorem dX1_becomeLike_25 : decode cX1_becomeLike 25 = .ok (.aload_n 0, 1) := by decide +kernel
theorem dX1_becomeLike_26 : decode cX1_becomeLike 26 = .ok (.iload_n 2, 1) := by decide +kernel
theorem dX1_becomeLike_27 : decode cX1_becomeLike 27 = .ok (.iload_n 3, 1) := by decide +kernel
theorem dX1_becomeLike_28 : decode cX1_becomeLike 28 = .ok (.aload_n 1, 1) := by decide +kernel
theorem dX1_becomeLike_29 : decode cX1_becomeLike 29 = .ok (.iload_n 2, 1) := by decide +kernel
theorem dX1_becomeLike_30 : decode cX1_becomeLike 30 = .ok (.iload_n 3, 1) := by decide +kernel
theorem dX1_becomeLike_31 : decode cX1_becomeLike 31 = .ok (.invokevirtual 19, 3) := by decide +kernel
theorem dX1_becomeLike_34 : decode cX1_becomeLike 34 = .ok (.invokevirtual 23, 3) := by decide +kernel
theorem dX1_becomeLike_37 : decode cX1_becomeLike 37 = .ok (.iinc 3 1, 3) := by decide +kernel
theorem dX1_becomeLike_40 : decode cX1_becomeLike 40 = .ok (.goto (-20), 3) := by decide +kernel
theorem dX1_becomeLike_43 : decode cX1_becomeLike 43 = .ok (.iinc 2 1, 3) := by decide +kernel
theorem dX1_becomeLike_46 : decode cX1_becomeLike 46 = .ok (.goto (-36), 3) := by decide +kernel
theorem dX1_becomeLike_49 : decode cX1_becomeLike 49 = .ok (.return_, 1) := by decide +kernel
theorem dX1_get_0 : decode cX1_get 0 = .ok (.iload_n 1, 1) := by decide +kernel
theorem dX1_get_1 : decode cX1_get 1 = .ok (.iconst 4, 1) := by decide +kernel
theorem dX1_get_2 : decode cX1_get 2 = .ok (.imul, 1) := by decide +kernel
theorem dX1_get_3 : decode cX1_get 3 = .ok (.iload_n 2, 1) := by decide +kernel
theorem dX1_get_4 : decode cX1_get 4 = .ok (.iadd, 1) := by decide +kernel
theorem dX1_get_5 : decode cX1_get 5 = .ok (.istore_n 3, 1) := by decide +kernel
theorem dX1_get_6 : decode cX1_get 6 = .ok (.iload_n 3, 1) := by decide +kernel
theorem dX1_get_7 : decode cX1_get 7 = .ok (.ifCond .lt 21, 3) := by decide +kernel
theorem dX1_get_10 : decode cX1_get 10 = .ok (.iload_n 3, 1) := by decide +kernel
theorem dX1_get_11 : decode cX1_get 11 = .ok (.aload_n 0, 1) := by decide +kernel
theorem dX1_get_12 : decode cX1_get 12 = .ok (.getfield 11, 3) := by decide +kernel
theorem dX1_get_15 : decode cX1_get 15 = .ok (.arraylength, 1) := by decide +kernel
theorem dX1_get_16 : decode cX1_get 16 = .ok (.if_icmp .ge 12, 3) := by decide +kernel
theorem dX1_get_19 : decode cX1_get 19 = .ok (.aload_n 0, 1) := by decide +kernel
theorem dX1_get_20 : decode cX1_get 20 = .ok (.getfield 11, 3) := by decide +kernel
theorem dX1_get_23 : decode cX1_get 23 = .ok (.iload_n 3, 1) := by decide +kernel
theorem dX1_get_24 : decode cX1_get 24 = .ok (.iaload, 1) := by decide +kernel
theorem dX1_get_25 : decode cX1_get 25 = .ok (.goto 4, 3) := by decide +kernel
theorem dX1_get_28 : decode cX1_get 28 = .ok (.iconst (-1), 1) := by decide +kernel
theorem dX1_get_29 : decode cX1_get 29 = .ok (.ireturn, 1) := by decide +kernel
theorem dX1_set_0 : decode cX1_set 0 = .ok (.iload_n 1, 1) := by decide +kernel
theorem dX1_set_1 : decode cX1_set 1 = .ok (.iconst 4, 1) := by decide +kernel
theorem dX1_set_2 : decode cX1_set 2 = .ok (.imul, 1) := by decide +kernel
theorem dX1_set_3 : decode cX1_set 3 = .ok (.iload_n 2, 1) := by decide +kernel
theorem dX1_set_4 : decode cX1_set 4 = .ok (.iadd, 1) := by decide +kernel
theorem dX1_set_5 : decode cX1_set 5 = .ok (.istore 4, 2) := by decide +kernel
theorem dX1_set_7 : decode cX1_set 7 = .ok (.iload 4, 2) := by decide +kernel
theorem dX1_set_9 : decode cX1_set 9 = .ok (.ifCond .lt 21, 3) := by decide +kernel
theorem dX1_set_12 : decode cX1_set 12 = .ok (.iload 4, 2) := by decide +kernel
theorem dX1_set_14 : decode cX1_set 14 = .ok (.aload_n 0, 1) := by decide +kernel
theorem dX1_set_15 : decode cX1_set 15 = .ok (.getfield 11, 3) := by decide +kernel
theorem dX1_set_18 : decode cX1_set 18 = .ok (.arraylength, 1) := by decide +kernel
theorem dX1_set_19 : decode cX1_set 19 = .ok (.if_icmp .ge 11, 3) := by decide +kernel
theorem dX1_set_22 : decode cX1_set 22 = .ok (.aload_n 0, 1) := by decide +kernel
theorem dX1_set_23 : decode cX1_set 23 = .ok (.getfield 11, 3) := by decide +kernel
theorem dX1_set_26 : decode cX1_set 26 = .ok (.iload 4, 2) := by decide +kernel
theorem dX1_set_28 : decode cX1_set 28 = .ok (.iload_n 3, 1) := by decide +kernel
theorem dX1_set_29 : decode cX1_set 29 = .ok (.iastore, 1) := by decide +kernel
theorem dX1_set_30 : decode cX1_set 30 = .ok (.return_, 1) := by decide +kernel
theorem dX1_count_0 : decode cX1_count 0 = .ok (.aload_n 0, 1) := by decide +kernel
theorem dX1_count_1 : decode cX1_count 1 = .ok (.getfield 15, 3) := by decide +kernel
theorem dX1_count_4 : decode cX1_count 4 = .ok (.ireturn, 1) := by decide +kernel
theorem dX1_isFull_0 : decode cX1_isFull 0 = .ok (.aload_n 0, 1) := by decide +kernel
theorem dX1_isFull_1 : decode cX1_isFull 1 = .ok (.getfield 15, 3) := by decide +kernel
theorem dX1_isFull_4 : decode cX1_isFull 4 = .ok (.bipush 8, 2) := by decide +kernel
theorem dX1_isFull_6 : decode cX1_isFull 6 = .ok (.if_icmp .lt 7, 3) := by decide +kernel
theorem dX1_isFull_9 : decode cX1_isFull 9 = .ok (.iconst 1, 1) := by decide +kernel
theorem dX1_isFull_10 : decode cX1_isFull 10 = .ok (.goto 4, 3) := by decide +kernel
theorem dX1_isFull_13 : decode cX1_isFull 13 = .ok (.iconst 0, 1) := by decide +kernel
theorem dX1_isFull_14 : decode cX1_isFull 14 = .ok (.ireturn, 1) := by decide +kernel
theorem dX1_add_0 : decode cX1_add 0 = .ok (.aload_n 0, 1) := by decide +kernel
theorem dX1_add_1 : decode cX1_add 1 = .ok (.aload_n 0, 1) := by decide +kernel
theorem dX1_add_2 : decode cX1_add 2 = .ok (.getfield 15, 3) := by decide +kernel
theorem dX1_add_5 : decode cX1_add 5 = .ok (.iconst 0, 1) := by decide +kernel
theorem dX1_add_6 : decode cX1_add 6 = .ok (.iload_n 1, 1) := by decide +kernel
theorem dX1_add_7 : decode cX1_add 7 = .ok (.invokevirtual 23, 3) := by decide +kernel
theorem dX1_add_10 : decode cX1_add 10 = .ok (.aload_n 0, 1) := by decide +kernel
theorem dX1_add_11 : decode cX1_add 11 = .ok (.aload_n 0, 1) := by decide +kernel
theorem dX1_add_12 : decode cX1_add 12 = .ok (.getfield 15, 3) := by decide +kernel
theorem dX1_add_15 : decode cX1_add 15 = .ok (.iconst 1, 1) := by decide +kernel
theorem dX1_add_16 : decode cX1_add 16 = .ok (.iload_n 2, 1) := by decide +kernel
theorem dX1_add_17 : decode cX1_add 17 = .ok (.invokevirtual 23, 3) := by decide +kernel
theorem dX1_add_20 : decode cX1_add 20 = .ok (.aload_n 0, 1) := by decide +kernel
theorem dX1_add_21 : decode cX1_add 21 = .ok (.aload_n 0, 1) := by decide +kernel
theorem dX1_add_22 : decode cX1_add 22 = .ok (.getfield 15, 3) := by decide +kernel
theorem dX1_add_25 : decode cX1_add 25 = .ok (.iconst 2, 1) := by decide +kernel
theorem dX1_add_26 : decode cX1_add 26 = .ok (.iload_n 3, 1) := by decide +kernel
theorem dX1_add_27 : decode cX1_add 27 = .ok (.invokevirtual 23, 3) := by decide +kernel
theorem dX1_add_30 : decode cX1_add 30 = .ok (.aload_n 0, 1) := by decide +kernel
theorem dX1_add_31 : decode cX1_add 31 = .ok (.aload_n 0, 1) := by decide +kernel
theorem dX1_add_32 : decode cX1_add 32 = .ok (.getfield 15, 3) := by decide +kernel
theorem dX1_add_35 : decode cX1_add 35 = .ok (.iconst 3, 1) := by decide +kernel
theorem dX1_add_36 : decode cX1_add 36 = .ok (.iload 4, 2) := by decide +kernel
theorem dX1_add_38 : decode cX1_add 38 = .ok (.invokevirtual 23, 3) := by decide +kernel
theorem dX1_add_41 : decode cX1_add 41 = .ok (.aload_n 0, 1) := by decide +kernel
theorem dX1_add_42 : decode cX1_add 42 = .ok (.dup, 1) := by decide +kernel
theorem dX1_add_43 : decode cX1_add 43 = .ok (.getfield 15, 3) := by decide +kernel
theorem dX1_add_46 : decode cX1_add 46 = .ok (.iconst 1, 1) := by decide +kernel
theorem dX1_add_47 : decode cX1_add 47 = .ok (.iadd, 1) := by decide +kernel
theorem dX1_add_48 : decode cX1_add 48 = .ok (.putfield 15, 3) := by decide +kernel
theorem dX1_add_51 : decode cX1_add 51 = .ok (.return_, 1) := by decide +kernel
theorem dX1_clear_0 : decode cX1_clear 0 = .ok (.aload_n 0, 1) := by decide +kernel
theorem dX1_clear_1 : decode cX1_clear 1 = .ok (.iconst 0, 1) := by decide +kernel
theorem dX1_clear_2 : decode cX1_clear 2 = .ok (.putfield 15, 3) := by decide +kernel
theorem dX1_clear_5 : decode cX1_clear 5 = .ok (.return_, 1) := by decide +kernel
theorem dX1_amountOf_0 : decode cX1_amountOf 0 = .ok (.iconst 0, 1) := by decide +kernel
theorem dX1_amountOf_1 : decode cX1_amountOf 1 = .ok (.istore_n 3, 1) := by decide +kernel
theorem dX1_amountOf_2 : decode cX1_amountOf 2 = .ok (.iconst 0, 1) := by decide +kernel
theorem dX1_amountOf_3 : decode cX1_amountOf 3 = .ok (.istore 4, 2) := by decide +kernel
theorem dX1_amountOf_5 : decode cX1_amountOf 5 = .ok (.iload 4, 2) := by decide +kernel
theorem dX1_amountOf_7 : decode cX1_amountOf 7 = .ok (.aload_n 0, 1) := by decide +kernel
theorem dX1_amountOf_8 : decode cX1_amountOf 8 = .ok (.getfield 15, 3) := by decide +kernel
theorem dX1_amountOf_11 : decode cX1_amountOf 11 = .ok (.if_icmp .ge 30, 3) := by decide +kernel
theorem dX1_amountOf_14 : decode cX1_amountOf 14 = .ok (.aload_n 0, 1) := by decide +kernel
theorem dX1_amountOf_15 : decode cX1_amountOf 15 = .ok (.iload 4, 2) := by decide +kernel
theorem dX1_amountOf_17 : decode cX1_amountOf 17 = .ok (.iload_n 1, 1) := by decide +kernel
theorem dX1_amountOf_18 : decode cX1_amountOf 18 = .ok (.invokevirtual 19, 3) := by decide +kernel
theorem dX1_amountOf_21 : decode cX1_amountOf 21 = .ok (.iload_n 2, 1) := by decide +kernel
theorem dX1_amountOf_22 : decode cX1_amountOf 22 = .ok (.if_icmp .ne 13, 3) := by decide +kernel
theorem dX1_amountOf_25 : decode cX1_amountOf 25 = .ok (.iload_n 3, 1) := by decide +kernel
theorem dX1_amountOf_26 : decode cX1_amountOf 26 = .ok (.aload_n 0, 1) := by decide +kernel
theorem dX1_amountOf_27 : decode cX1_amountOf 27 = .ok (.iload 4, 2) := by decide +kernel
theorem dX1_amountOf_29 : decode cX1_amountOf 29 = .ok (.iconst 2, 1) := by decide +kernel
theorem dX1_amountOf_30 : decode cX1_amountOf 30 = .ok (.invokevirtual 19, 3) := by decide +kernel
theorem dX1_amountOf_33 : decode cX1_amountOf 33 = .ok (.iadd, 1) := by decide +kernel
theorem dX1_amountOf_34 : decode cX1_amountOf 34 = .ok (.istore_n 3, 1) := by decide +kernel
theorem dX1_amountOf_35 : decode cX1_amountOf 35 = .ok (.iinc 4 1, 3) := by decide +kernel
theorem dX1_amountOf_38 : decode cX1_amountOf 38 = .ok (.goto (-33), 3) := by decide +kernel
theorem dX1_amountOf_41 : decode cX1_amountOf 41 = .ok (.iload_n 3, 1) := by decide +kernel
theorem dX1_amountOf_42 : decode cX1_amountOf 42 = .ok (.ireturn, 1) := by decide +kernel
theorem dX1_shorten_0 : decode cX1_shorten 0 = .ok (.iconst 0, 1) := by decide +kernel
theorem dX1_shorten_1 : decode cX1_shorten 1 = .ok (.istore_n 1, 1) := by decide +kernel
theorem dX1_shorten_2 : decode cX1_shorten 2 = .ok (.iconst 0, 1) := by decide +kernel
theorem dX1_shorten_3 : decode cX1_shorten 3 = .ok (.istore_n 2, 1) := by decide +kernel
theorem dX1_shorten_4 : decode cX1_shorten 4 = .ok (.iload_n 2, 1) := by decide +kernel
theorem dX1_shorten_5 : decode cX1_shorten 5 = .ok (.aload_n 0, 1) := by decide +kernel
theorem dX1_shorten_6 : decode cX1_shorten 6 = .ok (.getfield 15, 3) := by decide +kernel
theorem dX1_shorten_9 : decode cX1_shorten 9 = .ok (.if_icmp .ge 38, 3) := by decide +kernel
theorem dX1_shorten_12 : decode cX1_shorten 12 = .ok (.aload_n 0, 1) := by decide +kernel
theorem dX1_shorten_13 : decode cX1_shorten 13 = .ok (.iload_n 2, 1) := by decide +kernel
theorem dX1_shorten_14 : decode cX1_shorten 14 = .ok (.iconst 3, 1) := by decide +kernel
theorem dX1_shorten_15 : decode cX1_shorten 15 = .ok (.invokevirtual 19, 3) := by decide +kernel
theorem dX1_shorten_18 : decode cX1_shorten 18 = .ok (.iconst 1, 1) := by decide +kernel
theorem dX1_shorten_19 : decode cX1_shorten 19 = .ok (.isub, 1) := by decide +kernel
theorem dX1_shorten_20 : decode cX1_shorten 20 = .ok (.istore_n 3, 1) := by decide +kernel
theorem dX1_shorten_21 : decode cX1_shorten 21 = .ok (.aload_n 0, 1) := by decide +kernel
theorem dX1_shorten_22 : decode cX1_shorten 22 = .ok (.iload_n 2, 1) := by decide +kernel
theorem dX1_shorten_23 : decode cX1_shorten 23 = .ok (.iconst 3, 1) := by decide +kernel
theorem dX1_shorten_24 : decode cX1_shorten 24 = .ok (.iload_n 3, 1) := by decide +kernel
theorem dX1_shorten_25 : decode cX1_shorten 25 = .ok (.invokevirtual 23, 3) := by decide +kernel
theorem dX1_shorten_28 : decode cX1_shorten 28 = .ok (.iload_n 3, 1) := by decide +kernel
theorem dX1_shorten_29 : decode cX1_shorten 29 = .ok (.ifCond .le 12, 3) := by decide +kernel
theorem dX1_shorten_32 : decode cX1_shorten 32 = .ok (.aload_n 0, 1) := by decide +kernel
theorem dX1_shorten_33 : decode cX1_shorten 33 = .ok (.iload_n 1, 1) := by decide +kernel
theorem dX1_shorten_34 : decode cX1_shorten 34 = .ok (.iload_n 2, 1) := by decide +kernel
theorem dX1_shorten_35 : decode cX1_shorten 35 = .ok (.invokevirtual 27, 3) := by decide +kernel
theorem dX1_shorten_38 : decode cX1_shorten 38 = .ok (.iinc 1 1, 3) := by decide +kernel
theorem dX1_shorten_41 : decode cX1_shorten 41 = .ok (.iinc 2 1, 3) := by decide +kernel
theorem dX1_shorten_44 : decode cX1_shorten 44 = .ok (.goto (-40), 3) := by decide +kernel
theorem dX1_shorten_47 : decode cX1_shorten 47 = .ok (.aload_n 0, 1) := by decide +kernel
theorem dX1_shorten_48 : decode cX1_shorten 48 = .ok (.iload_n 1, 1) := by decide +kernel
theorem dX1_shorten_49 : decode cX1_shorten 49 = .ok (.putfield 15, 3) := by decide +kernel
theorem dX1_shorten_52 : decode cX1_shorten 52 = .ok (.return_, 1) := by decide +kernel
theorem dX1_moveTo_0 : decode cX1_moveTo 0 = .ok (.iconst 0, 1) := by decide +kernel
theorem dX1_moveTo_1 : decode cX1_moveTo 1 = .ok (.istore_n 3, 1) := by decide +kernel
theorem dX1_moveTo_2 : decode cX1_moveTo 2 = .ok (.iload_n 3, 1) := by decide +kernel
theorem dX1_moveTo_3 : decode cX1_moveTo 3 = .ok (.iconst 4, 1) := by decide +kernel
theorem dX1_moveTo_4 : decode cX1_moveTo 4 = .ok (.if_icmp .ge 21, 3) := by decide +kernel
theorem dX1_moveTo_7 : decode cX1_moveTo 7 = .ok (.aload_n 0, 1) := by decide +kernel
theorem dX1_moveTo_8 : decode cX1_moveTo 8 = .ok (.iload_n 1, 1) := by decide +kernel
theorem dX1_moveTo_9 : decode cX1_moveTo 9 = .ok (.iload_n 3, 1) := by decide +kernel
theorem dX1_moveTo_10 : decode cX1_moveTo 10 = .ok (.aload_n 0, 1) := by decide +kernel
theorem dX1_moveTo_11 : decode cX1_moveTo 11 = .ok (.iload_n 2, 1) := by decide +kernel
theorem dX1_moveTo_12 : decode cX1_moveTo 12 = .ok (.iload_n 3, 1) := by decide +kernel
theorem dX1_moveTo_13 : decode cX1_moveTo 13 = .ok (.invokevirtual 19, 3) := by decide +kernel
theorem dX1_moveTo_16 : decode cX1_moveTo 16 = .ok (.invokevirtual 23, 3) := by decide +kernel
theorem dX1_moveTo_19 : decode cX1_moveTo 19 = .ok (.iinc 3 1, 3) := by decide +kernel
theorem dX1_moveTo_22 : decode cX1_moveTo 22 = .ok (.goto (-20), 3) := by decide +kernel
theorem dX1_moveTo_25 : decode cX1_moveTo 25 = .ok (.return_, 1) := by decide +kernel
theorem dX2_init_0 : decode cX2_init 0 = .ok (.aload_n 0, 1) := by decide +kernel
theorem dX2_init_1 : decode cX2_init 1 = .ok (.invokespecial 3, 3) := by decide +kernel
theorem dX2_init_4 : decode cX2_init 4 = .ok (.aload_n 0, 1) := by decide +kernel
theorem dX2_init_5 : decode cX2_init 5 = .ok (.new 9, 3) := by decide +kernel
theorem dX2_init_8 : decode cX2_init 8 = .ok (.dup, 1) := by decide +kernel
theorem dX2_init_9 : decode cX2_init 9 = .ok (.invokespecial 11, 3) := by decide +kernel
theorem dX2_init_12 : decode cX2_init 12 = .ok (.putfield 12, 3) := by decide +kernel
theorem dX2_init_15 : decode cX2_init 15 = .ok (.aload_n 0, 1) := by decide +kernel
theorem dX2_init_16 : decode cX2_init 16 = .ok (.new 18, 3) := by decide +kernel
theorem dX2_init_19 : decode cX2_init 19 = .ok (.dup, 1) := by decide +kernel
theorem dX2_init_20 : decode cX2_init 20 = .ok (.invokespecial 20, 3) := by decide +kernel
theorem dX2_init_23 : decode cX2_init 23 = .ok (.putfield 21, 3) := by decide +kernel
theorem dX2_init_26 : decode cX2_init 26 = .ok (.aload_n 0, 1) := by decide +kernel
theorem dX2_init_27 : decode cX2_init 27 = .ok (.new 25, 3) := by decide +kernel
theorem dX2_init_30 : decode cX2_init 30 = .ok (.dup, 1) := by decide +kernel
theorem dX2_init_31 : decode cX2_init 31 = .ok (.invokespecial 27, 3) := by decide +kernel
theorem dX2_init_34 : decode cX2_init 34 = .ok (.putfield 28, 3) := by decide +kernel
theorem dX2_init_37 : decode cX2_init 37 = .ok (.aload_n 0, 1) := by decide +kernel
theorem dX2_init_38 : decode cX2_init 38 = .ok (.new 25, 3) := by decide +kernel
theorem dX2_init_41 : decode cX2_init 41 = .ok (.dup, 1) := by decide +kernel
theorem dX2_init_42 : decode cX2_init 42 = .ok (.invokespecial 27, 3) := by decide +kernel
theorem dX2_init_45 : decode cX2_init 45 = .ok (.putfield 32, 3) := by decide +kernel
theorem dX2_init_48 : decode cX2_init 48 = .ok (.return_, 1) := by decide +kernel
theorem dX2_becomeLike_0 : decode cX2_becomeLike 0 = .ok (.aload_n 0, 1) := by decide +kernel
theorem dX2_becomeLike_1 : decode cX2_becomeLike 1 = .ok (.getfield 12, 3) := by decide +kernel
theorem dX2_becomeLike_4 : decode cX2_becomeLike 4 = .ok (.aload_n 1, 1) := by decide +kernel
theorem dX2_becomeLike_5 : decode cX2_becomeLike 5 = .ok (.getfield 12, 3) := by decide +kernel
theorem dX2_becomeLike_8 : decode cX2_becomeLike 8 = .ok (.invokevirtual 35, 3) := by decide +kernel
theorem dX2_becomeLike_11 : decode cX2_becomeLike 11 = .ok (.aload_n 0, 1) := by decide +kernel
theorem dX2_becomeLike_12 : decode cX2_becomeLike 12 = .ok (.getfield 21, 3) := by decide +kernel
theorem dX2_becomeLike_15 : decode cX2_becomeLike 15 = .ok (.aload_n 1, 1) := by decide +kernel
theorem dX2_becomeLike_16 : decode cX2_becomeLike 16 = .ok (.getfield 21, 3) := by decide +kernel
theorem dX2_becomeLike_19 : decode cX2_becomeLike 19 = .ok (.invokevirtual 39, 3) := by decide +kernel
theorem dX2_becomeLike_22 : decode cX2_becomeLike 22 = .ok (.aload_n 0, 1) := by decide +kernel
theorem dX2_becomeLike_23 : decode cX2_becomeLike 23 = .ok (.getfield 28, 3) := by decide +kernel
theorem dX2_becomeLike_26 : decode cX2_becomeLike 26 = .ok (.aload_n 1, 1) := by decide +kernel
theorem dX2_becomeLike_27 : decode cX2_becomeLike 27 = .ok (.getfield 28, 3) := by decide +kernel
theorem dX2_becomeLike_30 : decode cX2_becomeLike 30 = .ok (.invokevirtual 42, 3) := by decide +kernel
theorem dX2_becomeLike_33 : decode cX2_becomeLike 33 = .ok (.aload_n 0, 1) := by decide +kernel
theorem dX2_becomeLike_34 : decode cX2_becomeLike 34 = .ok (.getfield 32, 3) := by decide +kernel
theorem dX2_becomeLike_37 : decode cX2_becomeLike 37 = .ok (.aload_n 1, 1) := by decide +kernel
theorem dX2_becomeLike_38 : decode cX2_becomeLike 38 = .ok (.getfield 32, 3) := by decide +kernel
theorem dX2_becomeLike_41 : decode cX2_becomeLike 41 = .ok (.invokevirtual 42, 3) := by decide +kernel
theorem dX2_becomeLike_44 : decode cX2_becomeLike 44 = .ok (.aload_n 0, 1) := by decide +kernel
theorem dX2_becomeLike_45 : decode cX2_becomeLike 45 = .ok (.aload_n 1, 1) := by decide +kernel
theorem dX2_becomeLike_46 : decode cX2_becomeLike 46 = .ok (.getfield 45, 3) := by decide +kernel
theorem dX2_becomeLike_49 : decode cX2_becomeLike 49 = .ok (.putfield 45, 3) := by decide +kernel
theorem dX2_becomeLike_52 : decode cX2_becomeLike 52 = .ok (.aload_n 0, 1) := by decide +kernel
theorem dX2_becomeLike_53 : decode cX2_becomeLike 53 = .ok (.aload_n 1, 1) := by decide +kernel
theorem dX2_becomeLike_54 : decode cX2_becomeLike 54 = .ok (.getfield 49, 3) := by decide +kernel
theorem dX2_becomeLike_57 : decode cX2_becomeLike 57 = .ok (.putfield 49, 3) := by decide +kernel
theorem dX2_becomeLike_60 : decode cX2_becomeLike 60 = .ok (.aload_n 0, 1) := by decide +kernel
theorem dX2_becomeLike_61 : decode cX2_becomeLike 61 = .ok (.aload_n 1, 1) := by decide +kernel
theorem dX2_becomeLike_62 : decode cX2_becomeLike 62 = .ok (.getfield 52, 3) := by decide +kernel
theorem dX2_becomeLike_65 : decode cX2_becomeLike 65 = .ok (.putfield 52, 3) := by decide +kernel
theorem dX2_becomeLike_68 : decode cX2_becomeLike 68 = .ok (.aload_n 0, 1) := by decide +kernel
theorem dX2_becomeLike_69 : decode cX2_becomeLike 69 = .ok (.aload_n 1, 1) := by decide +kernel
theorem dX2_becomeLike_70 : decode cX2_becomeLike 70 = .ok (.getfield 55, 3) := by decide +kernel
theorem dX2_becomeLike_73 : decode cX2_becomeLike 73 = .ok (.putfield 55, 3) := by decide +kernel
theorem dX2_becomeLike_76 : decode cX2_becomeLike 76 = .ok (.return_, 1) := by decide +kernel
theorem dX2_date_0 : decode cX2_date 0 = .ok (.aload_n 0, 1) := by decide +kernel
theorem dX2_date_1 : decode cX2_date 1 = .ok (.getfield 45, 3) := by decide +kernel
theorem dX2_date_4 : decode cX2_date 4 = .ok (.bipush 70, 2) := by decide +kernel
theorem dX2_date_6 : decode cX2_date 6 = .ok (.irem, 1) := by decide +kernel
theorem dX2_date_7 : decode cX2_date 7 = .ok (.ireturn, 1) := by decide +kernel
theorem dX2_daysToHarvest_0 : decode cX2_daysToHarvest 0 = .ok (.bipush 60, 2) := by decide +kernel
theorem dX2_daysToHarvest_2 : decode cX2_daysToHarvest 2 = .ok (.aload_n 0, 1) := by decide +kernel
theorem dX2_daysToHarvest_3 : decode cX2_daysToHarvest 3 = .ok (.invokevirtual 58, 3) := by decide +kernel
theorem dX2_daysToHarvest_6 : decode cX2_daysToHarvest 6 = .ok (.isub, 1) := by decide +kernel
theorem dX2_daysToHarvest_7 : decode cX2_daysToHarvest 7 = .ok (.istore_n 1, 1) := by decide +kernel
theorem dX2_daysToHarvest_8 : decode cX2_daysToHarvest 8 = .ok (.iload_n 1, 1) := by decide +kernel
theorem dX2_daysToHarvest_9 : decode cX2_daysToHarvest 9 = .ok (.ifCond .le 7, 3) := by decide +kernel
theorem dX2_daysToHarvest_12 : decode cX2_daysToHarvest 12 = .ok (.iload_n 1, 1) := by decide +kernel
theorem dX2_daysToHarvest_13 : decode cX2_daysToHarvest 13 = .ok (.goto 7, 3) := by decide +kernel
theorem dX2_daysToHarvest_16 : decode cX2_daysToHarvest 16 = .ok (.iload_n 1, 1) := by decide +kernel
theorem dX2_daysToHarvest_17 : decode cX2_daysToHarvest 17 = .ok (.bipush 70, 2) := by decide +kernel
theorem dX2_daysToHarvest_19 : decode cX2_daysToHarvest 19 = .ok (.iadd, 1) := by decide +kernel
theorem dX2_daysToHarvest_20 : decode cX2_daysToHarvest 20 = .ok (.ireturn, 1) := by decide +kernel
theorem dX2_letDaysGoBy_0 : decode cX2_letDaysGoBy 0 = .ok (.iconst 0, 1) := by decide +kernel
theorem dX2_letDaysGoBy_1 : decode cX2_letDaysGoBy 1 = .ok (.istore_n 3, 1) := by decide +kernel
theorem dX2_letDaysGoBy_2 : decode cX2_letDaysGoBy 2 = .ok (.iconst 0, 1) := by decide +kernel
theorem dX2_letDaysGoBy_3 : decode cX2_letDaysGoBy 3 = .ok (.istore 4, 2) := by decide +kernel
theorem dX2_letDaysGoBy_5 : decode cX2_letDaysGoBy 5 = .ok (.iload 4, 2) := by decide +kernel
theorem dX2_letDaysGoBy_7 : decode cX2_letDaysGoBy 7 = .ok (.iload_n 2, 1) := by decide +kernel
theorem dX2_letDaysGoBy_8 : decode cX2_letDaysGoBy 8 = .ok (.if_icmp .ge 17, 3) := by decide +kernel
theorem dX2_letDaysGoBy_11 : decode cX2_letDaysGoBy 11 = .ok (.iload_n 3, 1) := by decide +kernel
theorem dX2_letDaysGoBy_12 : decode cX2_letDaysGoBy 12 = .ok (.aload_n 0, 1) := by decide +kernel
theorem dX2_letDaysGoBy_13 : decode cX2_letDaysGoBy 13 = .ok (.iload_n 1, 1) := by decide +kernel
theorem dX2_letDaysGoBy_14 : decode cX2_letDaysGoBy 14 = .ok (.invokevirtual 62, 3) := by decide +kernel
theorem dX2_letDaysGoBy_17 : decode cX2_letDaysGoBy 17 = .ok (.iadd, 1) := by decide +kernel
theorem dX2_letDaysGoBy_18 : decode cX2_letDaysGoBy 18 = .ok (.istore_n 3, 1) := by decide +kernel
theorem dX2_letDaysGoBy_19 : decode cX2_letDaysGoBy 19 = .ok (.iinc 4 1, 3) := by decide +kernel
theorem dX2_letDaysGoBy_22 : decode cX2_letDaysGoBy 22 = .ok (.goto (-17), 3) := by decide +kernel
theorem dX2_letDaysGoBy_25 : decode cX2_letDaysGoBy 25 = .ok (.iload_n 3, 1) := by decide +kernel
theorem dX2_letDaysGoBy_26 : decode cX2_letDaysGoBy 26 = .ok (.ireturn, 1) := by decide +kernel
theorem dX2_letDayGoBy_0 : decode cX2_letDayGoBy 0 = .ok (.aload_n 0, 1) := by decide +kernel
theorem dX2_letDayGoBy_1 : decode cX2_letDayGoBy 1 = .ok (.dup, 1) := by decide +kernel
theorem dX2_letDayGoBy_2 : decode cX2_letDayGoBy 2 = .ok (.getfield 45, 3) := by decide +kernel
theorem dX2_letDayGoBy_5 : decode cX2_letDayGoBy 5 = .ok (.iconst 1, 1) := by decide +kernel
theorem dX2_letDayGoBy_6 : decode cX2_letDayGoBy 6 = .ok (.iadd, 1) := by decide +kernel
theorem dX2_letDayGoBy_7 : decode cX2_letDayGoBy 7 = .ok (.putfield 45, 3) := by decide +kernel
theorem dX2_letDayGoBy_10 : decode cX2_letDayGoBy 10 = .ok (.aload_n 0, 1) := by decide +kernel
theorem dX2_letDayGoBy_11 : decode cX2_letDayGoBy 11 = .ok (.invokevirtual 58, 3) := by decide +kernel
theorem dX2_letDayGoBy_14 : decode cX2_letDayGoBy 14 = .ok (.bipush 10, 2) := by decide +kernel
theorem dX2_letDayGoBy_16 : decode cX2_letDayGoBy 16 = .ok (.irem, 1) := by decide +kernel
theorem dX2_letDayGoBy_17 : decode cX2_letDayGoBy 17 = .ok (.ifCond .ne 7, 3) := by decide +kernel
theorem dX2_letDayGoBy_20 : decode cX2_letDayGoBy 20 = .ok (.iconst 1, 1) := by decide +kernel
theorem dX2_letDayGoBy_21 : decode cX2_letDayGoBy 21 = .ok (.goto 4, 3) := by decide +kernel
theorem dX2_letDayGoBy_24 : decode cX2_letDayGoBy 24 = .ok (.iconst 0, 1) := by decide +kernel
theorem dX2_letDayGoBy_25 : decode cX2_letDayGoBy 25 = .ok (.istore_n 2, 1) := by decide +kernel
theorem dX2_letDayGoBy_26 : decode cX2_letDayGoBy 26 = .ok (.aload_n 0, 1) := by decide +kernel
theorem dX2_letDayGoBy_27 : decode cX2_letDayGoBy 27 = .ok (.getfield 12, 3) := by decide +kernel
theorem dX2_letDayGoBy_30 : decode cX2_letDayGoBy 30 = .ok (.iload_n 1, 1) := by decide +kernel
theorem dX2_letDayGoBy_31 : decode cX2_letDayGoBy 31 = .ok (.iload_n 2, 1) := by decide +kernel
theorem dX2_letDayGoBy_32 : decode cX2_letDayGoBy 32 = .ok (.invokevirtual 66, 3) := by decide +kernel
theorem dX2_letDayGoBy_35 : decode cX2_letDayGoBy 35 = .ok (.aload_n 0, 1) := by decide +kernel
theorem dX2_letDayGoBy_36 : decode cX2_letDayGoBy 36 = .ok (.invokevirtual 69, 3) := by decide +kernel
theorem dX2_letDayGoBy_39 : decode cX2_letDayGoBy 39 = .ok (.istore_n 3, 1) := by decide +kernel
theorem dX2_letDayGoBy_40 : decode cX2_letDayGoBy 40 = .ok (.aload_n 0, 1) := by decide +kernel
theorem dX2_letDayGoBy_41 : decode cX2_letDayGoBy 41 = .ok (.getfield 21, 3) := by decide +kernel
theorem dX2_letDayGoBy_44 : decode cX2_letDayGoBy 44 = .ok (.iload_n 2, 1) := by decide +kernel
theorem dX2_letDayGoBy_45 : decode cX2_letDayGoBy 45 = .ok (.invokevirtual 72, 3) := by decide +kernel
theorem dX2_letDayGoBy_48 : decode cX2_letDayGoBy 48 = .ok (.aload_n 0, 1) := by decide +kernel
theorem dX2_letDayGoBy_49 : decode cX2_letDayGoBy 49 = .ok (.invokevirtual 58, 3) := by decide +kernel
theorem dX2_letDayGoBy_52 : decode cX2_letDayGoBy 52 = .ok (.bipush 60, 2) := by decide +kernel
theorem dX2_letDayGoBy_54 : decode cX2_letDayGoBy 54 = .ok (.if_icmp .ne 23, 3) := by decide +kernel
theorem dX2_letDayGoBy_57 : decode cX2_letDayGoBy 57 = .ok (.aload_n 0, 1) := by decide +kernel
theorem dX2_letDayGoBy_58 : decode cX2_letDayGoBy 58 = .ok (.dup, 1) := by decide +kernel
theorem dX2_letDayGoBy_59 : decode cX2_letDayGoBy 59 = .ok (.getfield 55, 3) := by decide +kernel
theorem dX2_letDayGoBy_62 : decode cX2_letDayGoBy 62 = .ok (.aload_n 0, 1) := by decide +kernel
theorem dX2_letDayGoBy_63 : decode cX2_letDayGoBy 63 = .ok (.getfield 21, 3) := by decide +kernel
theorem dX2_letDayGoBy_66 : decode cX2_letDayGoBy 66 = .ok (.invokevirtual 76, 3) := by decide +kernel
theorem dX2_letDayGoBy_69 : decode cX2_letDayGoBy 69 = .ok (.iadd, 1) := by decide +kernel
theorem dX2_letDayGoBy_70 : decode cX2_letDayGoBy 70 = .ok (.putfield 55, 3) := by decide +kernel
theorem dX2_letDayGoBy_73 : decode cX2_letDayGoBy 73 = .ok (.aload_n 0, 1) := by decide +kernel
theorem dX2_letDayGoBy_74 : decode cX2_letDayGoBy 74 = .ok (.invokevirtual 79, 3) := by decide +kernel
theorem dX2_letDayGoBy_77 : decode cX2_letDayGoBy 77 = .ok (.aload_n 0, 1) := by decide +kernel
theorem dX2_letDayGoBy_78 : decode cX2_letDayGoBy 78 = .ok (.getfield 45, 3) := by decide +kernel
theorem dX2_letDayGoBy_81 : decode cX2_letDayGoBy 81 = .ok (.bipush 7, 2) := by decide +kernel
theorem dX2_letDayGoBy_83 : decode cX2_letDayGoBy 83 = .ok (.irem, 1) := by decide +kernel
theorem dX2_letDayGoBy_84 : decode cX2_letDayGoBy 84 = .ok (.ifCond .ne 10, 3) := by decide +kernel
theorem dX2_letDayGoBy_87 : decode cX2_letDayGoBy 87 = .ok (.aload_n 0, 1) := by decide +kernel
theorem dX2_letDayGoBy_88 : decode cX2_letDayGoBy 88 = .ok (.getfield 28, 3) := by decide +kernel
theorem dX2_letDayGoBy_91 : decode cX2_letDayGoBy 91 = .ok (.invokevirtual 82, 3) := by decide +kernel
theorem dX2_letDayGoBy_94 : decode cX2_letDayGoBy 94 = .ok (.iload_n 3, 1) := by decide +kernel
theorem dX2_letDayGoBy_95 : decode cX2_letDayGoBy 95 = .ok (.ireturn, 1) := by decide +kernel
theorem dX2_giveWater_0 : decode cX2_giveWater 0 = .ok (.aload_n 0, 1) := by decide +kernel
theorem dX2_giveWater_1 : decode cX2_giveWater 1 = .ok (.getfield 12, 3) := by decide +kernel
theorem dX2_giveWater_4 : decode cX2_giveWater 4 = .ok (.invokevirtual 85, 3) := by decide +kernel
theorem dX2_giveWater_7 : decode cX2_giveWater 7 = .ok (.istore_n 1, 1) := by decide +kernel
theorem dX2_giveWater_8 : decode cX2_giveWater 8 = .ok (.aload_n 0, 1) := by decide +kernel
theorem dX2_giveWater_9 : decode cX2_giveWater 9 = .ok (.getfield 45, 3) := by decide +kernel
theorem dX2_giveWater_12 : decode cX2_giveWater 12 = .ok (.bipush 7, 2) := by decide +kernel
theorem dX2_giveWater_14 : decode cX2_giveWater 14 = .ok (.irem, 1) := by decide +kernel
theorem dX2_giveWater_15 : decode cX2_giveWater 15 = .ok (.sipush 720, 3) := by decide +kernel
theorem dX2_giveWater_18 : decode cX2_giveWater 18 = .ok (.imul, 1) := by decide +kernel
theorem dX2_giveWater_19 : decode cX2_giveWater 19 = .ok (.istore_n 2, 1) := by decide +kernel
theorem dX2_giveWater_20 : decode cX2_giveWater 20 = .ok (.iconst 0, 1) := by decide +kernel
theorem dX2_giveWater_21 : decode cX2_giveWater 21 = .ok (.istore_n 3, 1) := by decide +kernel
theorem dX2_giveWater_22 : decode cX2_giveWater 22 = .ok (.iconst 0, 1) := by decide +kernel
theorem dX2_giveWater_23 : decode cX2_giveWater 23 = .ok (.istore 4, 2) := by decide +kernel
theorem dX2_giveWater_25 : decode cX2_giveWater 25 = .ok (.iload 4, 2) := by decide +kernel
theorem dX2_giveWater_27 : decode cX2_giveWater 27 = .ok (.aload_n 0, 1) := by decide +kernel
theorem dX2_giveWater_28 : decode cX2_giveWater 28 = .ok (.getfield 21, 3) := by decide +kernel
theorem dX2_giveWater_31 : decode cX2_giveWater 31 = .ok (.invokevirtual 88, 3) := by decide +kernel
theorem dX2_giveWater_34 : decode cX2_giveWater 34 = .ok (.if_icmp .ge 63, 3) := by decide +kernel
theorem dX2_giveWater_37 : decode cX2_giveWater 37 = .ok (.aload_n 0, 1) := by decide +kernel
theorem dX2_giveWater_38 : decode cX2_giveWater 38 = .ok (.getfield 21, 3) := by decide +kernel
theorem dX2_giveWater_41 : decode cX2_giveWater 41 = .ok (.iload 4, 2) := by decide +kernel
theorem dX2_giveWater_43 : decode cX2_giveWater 43 = .ok (.invokevirtual 91, 3) := by decide +kernel
theorem dX2_giveWater_46 : decode cX2_giveWater 46 = .ok (.astore 5, 2) := by decide +kernel
theorem dX2_giveWater_48 : decode cX2_giveWater 48 = .ok (.iload_n 3, 1) := by decide +kernel
theorem dX2_giveWater_49 : decode cX2_giveWater 49 = .ok (.aload 5, 2) := by decide +kernel
theorem dX2_giveWater_51 : decode cX2_giveWater 51 = .ok (.getfield 95, 3) := by decide +kernel
theorem dX2_giveWater_54 : decode cX2_giveWater 54 = .ok (.iadd, 1) := by decide +kernel
theorem dX2_giveWater_55 : decode cX2_giveWater 55 = .ok (.istore 6, 2) := by decide +kernel
theorem dX2_giveWater_57 : decode cX2_giveWater 57 = .ok (.aload_n 0, 1) := by decide +kernel
theorem dX2_giveWater_58 : decode cX2_giveWater 58 = .ok (.aload 5, 2) := by decide +kernel
theorem dX2_giveWater_60 : decode cX2_giveWater 60 = .ok (.iload 6, 2) := by decide +kernel
theorem dX2_giveWater_62 : decode cX2_giveWater 62 = .ok (.iload_n 2, 1) := by decide +kernel
theorem dX2_giveWater_63 : decode cX2_giveWater 63 = .ok (.iload_n 1, 1) := by decide +kernel
theorem dX2_giveWater_64 : decode cX2_giveWater 64 = .ok (.invokevirtual 100, 3) := by decide +kernel
theorem dX2_giveWater_67 : decode cX2_giveWater 67 = .ok (.istore 7, 2) := by decide +kernel
theorem dX2_giveWater_69 : decode cX2_giveWater 69 = .ok (.aload 5, 2) := by decide +kernel
theorem dX2_giveWater_71 : decode cX2_giveWater 71 = .ok (.dup, 1) := by decide +kernel
theorem dX2_giveWater_72 : decode cX2_giveWater 72 = .ok (.getfield 104, 3) := by decide +kernel
theorem dX2_giveWater_75 : decode cX2_giveWater 75 = .ok (.iload_n 3, 1) := by decide +kernel
theorem dX2_giveWater_76 : decode cX2_giveWater 76 = .ok (.iload 7, 2) := by decide +kernel
theorem dX2_giveWater_78 : decode cX2_giveWater 78 = .ok (.iload_n 2, 1) := by decide +kernel
theorem dX2_giveWater_79 : decode cX2_giveWater 79 = .ok (.invokestatic 107, 3) := by decide +kernel
theorem dX2_giveWater_82 : decode cX2_giveWater 82 = .ok (.iload_n 1, 1) := by decide +kernel
theorem dX2_giveWater_83 : decode cX2_giveWater 83 = .ok (.imul, 1) := by decide +kernel
theorem dX2_giveWater_84 : decode cX2_giveWater 84 = .ok (.iadd, 1) := by decide +kernel
theorem dX2_giveWater_85 : decode cX2_giveWater 85 = .ok (.putfield 104, 3) := by decide +kernel
theorem dX2_giveWater_88 : decode cX2_giveWater 88 = .ok (.iload 6, 2) := by decide +kernel
theorem dX2_giveWater_90 : decode cX2_giveWater 90 = .ok (.istore_n 3, 1) := by decide +kernel
theorem dX2_giveWater_91 : decode cX2_giveWater 91 = .ok (.iinc 4 1, 3) := by decide +kernel
theorem dX2_giveWater_94 : decode cX2_giveWater 94 = .ok (.goto (-69), 3) := by decide +kernel
theorem dX2_giveWater_97 : decode cX2_giveWater 97 = .ok (.aload_n 0, 1) := by decide +kernel
theorem dX2_giveWater_98 : decode cX2_giveWater 98 = .ok (.dup, 1) := by decide +kernel
theorem dX2_giveWater_99 : decode cX2_giveWater 99 = .ok (.getfield 49, 3) := by decide +kernel
theorem dX2_giveWater_102 : decode cX2_giveWater 102 = .ok (.iload_n 3, 1) := by decide +kernel
theorem dX2_giveWater_103 : decode cX2_giveWater 103 = .ok (.sipush 5040, 3) := by decide +kernel
theorem dX2_giveWater_106 : decode cX2_giveWater 106 = .ok (.iload_n 2, 1) := by decide +kernel
theorem dX2_giveWater_107 : decode cX2_giveWater 107 = .ok (.invokestatic 107, 3) := by decide +kernel
theorem dX2_giveWater_110 : decode cX2_giveWater 110 = .ok (.iload_n 1, 1) := by decide +kernel
theorem dX2_giveWater_111 : decode cX2_giveWater 111 = .ok (.imul, 1) := by decide +kernel
theorem dX2_giveWater_112 : decode cX2_giveWater 112 = .ok (.iadd, 1) := by decide +kernel
theorem dX2_giveWater_113 : decode cX2_giveWater 113 = .ok (.putfield 49, 3) := by decide +kernel
theorem dX2_giveWater_116 : decode cX2_giveWater 116 = .ok (.iconst 0, 1) := by decide +kernel
theorem dX2_giveWater_117 : decode cX2_giveWater 117 = .ok (.istore 4, 2) := by decide +kernel
theorem dX2_giveWater_119 : decode cX2_giveWater 119 = .ok (.iconst 0, 1) := by decide +kernel
theorem dX2_giveWater_120 : decode cX2_giveWater 120 = .ok (.istore 5, 2) := by decide +kernel
theorem dX2_giveWater_122 : decode cX2_giveWater 122 = .ok (.iload 5, 2) := by decide +kernel
theorem dX2_giveWater_124 : decode cX2_giveWater 124 = .ok (.aload_n 0, 1) := by decide +kernel
theorem dX2_giveWater_125 : decode cX2_giveWater 125 = .ok (.getfield 21, 3) := by decide +kernel
theorem dX2_giveWater_128 : decode cX2_giveWater 128 = .ok (.invokevirtual 88, 3) := by decide +kernel
theorem dX2_giveWater_131 : decode cX2_giveWater 131 = .ok (.if_icmp .ge 65, 3) := by decide +kernel
theorem dX2_giveWater_134 : decode cX2_giveWater 134 = .ok (.aload_n 0, 1) := by decide +kernel
theorem dX2_giveWater_135 : decode cX2_giveWater 135 = .ok (.getfield 21, 3) := by decide +kernel
theorem dX2_giveWater_138 : decode cX2_giveWater 138 = .ok (.iload 5, 2) := by decide +kernel
theorem dX2_giveWater_140 : decode cX2_giveWater 140 = .ok (.invokevirtual 91, 3) := by decide +kernel
theorem dX2_giveWater_143 : decode cX2_giveWater 143 = .ok (.astore 6, 2) := by decide +kernel
theorem dX2_giveWater_145 : decode cX2_giveWater 145 = .ok (.aload_n 0, 1) := by decide +kernel
theorem dX2_giveWater_146 : decode cX2_giveWater 146 = .ok (.dup, 1) := by decide +kernel
theorem dX2_giveWater_147 : decode cX2_giveWater 147 = .ok (.getfield 52, 3) := by decide +kernel
theorem dX2_giveWater_150 : decode cX2_giveWater 150 = .ok (.aload 6, 2) := by decide +kernel
theorem dX2_giveWater_152 : decode cX2_giveWater 152 = .ok (.getfield 104, 3) := by decide +kernel
theorem dX2_giveWater_155 : decode cX2_giveWater 155 = .ok (.iadd, 1) := by decide +kernel
theorem dX2_giveWater_156 : decode cX2_giveWater 156 = .ok (.putfield 52, 3) := by decide +kernel
theorem dX2_giveWater_159 : decode cX2_giveWater 159 = .ok (.aload 6, 2) := by decide +kernel
theorem dX2_giveWater_161 : decode cX2_giveWater 161 = .ok (.iload 5, 2) := by decide +kernel
theorem dX2_giveWater_163 : decode cX2_giveWater 163 = .ok (.invokevirtual 111, 3) := by decide +kernel
theorem dX2_giveWater_166 : decode cX2_giveWater 166 = .ok (.aload_n 0, 1) := by decide +kernel
theorem dX2_giveWater_167 : decode cX2_giveWater 167 = .ok (.dup, 1) := by decide +kernel
theorem dX2_giveWater_168 : decode cX2_giveWater 168 = .ok (.getfield 52, 3) := by decide +kernel
theorem dX2_giveWater_171 : decode cX2_giveWater 171 = .ok (.aload 6, 2) := by decide +kernel
theorem dX2_giveWater_173 : decode cX2_giveWater 173 = .ok (.getfield 115, 3) := by decide +kernel
theorem dX2_giveWater_176 : decode cX2_giveWater 176 = .ok (.isub, 1) := by decide +kernel
theorem dX2_giveWater_177 : decode cX2_giveWater 177 = .ok (.putfield 52, 3) := by decide +kernel
theorem dX2_giveWater_180 : decode cX2_giveWater 180 = .ok (.iload 4, 2) := by decide +kernel
theorem dX2_giveWater_182 : decode cX2_giveWater 182 = .ok (.aload 6, 2) := by decide +kernel
theorem dX2_giveWater_184 : decode cX2_giveWater 184 = .ok (.getfield 115, 3) := by decide +kernel
theorem dX2_giveWater_187 : decode cX2_giveWater 187 = .ok (.iadd, 1) := by decide +kernel
theorem dX2_giveWater_188 : decode cX2_giveWater 188 = .ok (.istore 4, 2) := by decide +kernel
theorem dX2_giveWater_190 : decode cX2_giveWater 190 = .ok (.iinc 5 1, 3) := by decide +kernel
theorem dX2_giveWater_193 : decode cX2_giveWater 193 = .ok (.goto (-71), 3) := by decide +kernel
theorem dX2_giveWater_196 : decode cX2_giveWater 196 = .ok (.iload 4, 2) := by decide +kernel
theorem dX2_giveWater_198 : decode cX2_giveWater 198 = .ok (.ireturn, 1) := by decide +kernel
theorem dX2_giveLentWater_0 : decode cX2_giveLentWater 0 = .ok (.iload_n 2, 1) := by decide +kernel
theorem dX2_giveLentWater_1 : decode cX2_giveLentWater 1 = .ok (.istore 5, 2) := by decide +kernel
theorem dX2_giveLentWater_3 : decode cX2_giveLentWater 3 = .ok (.iconst 0, 1) := by decide +kernel
theorem dX2_giveLentWater_4 : decode cX2_giveLentWater 4 = .ok (.istore 6, 2) := by decide +kernel
theorem dX2_giveLentWater_6 : decode cX2_giveLentWater 6 = .ok (.iload 6, 2) := by decide +kernel
theorem dX2_giveLentWater_8 : decode cX2_giveLentWater 8 = .ok (.aload_n 0, 1) := by decide +kernel
theorem dX2_giveLentWater_9 : decode cX2_giveLentWater 9 = .ok (.getfield 28, 3) := by decide +kernel
theorem dX2_giveLentWater_12 : decode cX2_giveLentWater 12 = .ok (.invokevirtual 118, 3) := by decide +kernel
theorem dX2_giveLentWater_15 : decode cX2_giveLentWater 15 = .ok (.if_icmp .ge 85, 3) := by decide +kernel
theorem dX2_giveLentWater_18 : decode cX2_giveLentWater 18 = .ok (.aload_n 0, 1) := by decide +kernel
theorem dX2_giveLentWater_19 : decode cX2_giveLentWater 19 = .ok (.getfield 28, 3) := by decide +kernel
theorem dX2_giveLentWater_22 : decode cX2_giveLentWater 22 = .ok (.iload 6, 2) := by decide +kernel
theorem dX2_giveLentWater_24 : decode cX2_giveLentWater 24 = .ok (.iconst 0, 1) := by decide +kernel
theorem dX2_giveLentWater_25 : decode cX2_giveLentWater 25 = .ok (.invokevirtual 121, 3) := by decide +kernel
theorem dX2_giveLentWater_28 : decode cX2_giveLentWater 28 = .ok (.aload_n 1, 1) := by decide +kernel
theorem dX2_giveLentWater_29 : decode cX2_giveLentWater 29 = .ok (.getfield 125, 3) := by decide +kernel
theorem dX2_giveLentWater_32 : decode cX2_giveLentWater 32 = .ok (.if_icmp .ne 62, 3) := by decide +kernel
theorem dX2_giveLentWater_35 : decode cX2_giveLentWater 35 = .ok (.iload 5, 2) := by decide +kernel
theorem dX2_giveLentWater_37 : decode cX2_giveLentWater 37 = .ok (.aload_n 0, 1) := by decide +kernel
theorem dX2_giveLentWater_38 : decode cX2_giveLentWater 38 = .ok (.getfield 28, 3) := by decide +kernel
theorem dX2_giveLentWater_41 : decode cX2_giveLentWater 41 = .ok (.iload 6, 2) := by decide +kernel
theorem dX2_giveLentWater_43 : decode cX2_giveLentWater 43 = .ok (.iconst 2, 1) := by decide +kernel
theorem dX2_giveLentWater_44 : decode cX2_giveLentWater 44 = .ok (.invokevirtual 121, 3) := by decide +kernel
theorem dX2_giveLentWater_47 : decode cX2_giveLentWater 47 = .ok (.isub, 1) := by decide +kernel
theorem dX2_giveLentWater_48 : decode cX2_giveLentWater 48 = .ok (.istore 7, 2) := by decide +kernel
theorem dX2_giveLentWater_50 : decode cX2_giveLentWater 50 = .ok (.aload_n 0, 1) := by decide +kernel
theorem dX2_giveLentWater_51 : decode cX2_giveLentWater 51 = .ok (.getfield 21, 3) := by decide +kernel
theorem dX2_giveLentWater_54 : decode cX2_giveLentWater 54 = .ok (.aload_n 0, 1) := by decide +kernel
theorem dX2_giveLentWater_55 : decode cX2_giveLentWater 55 = .ok (.getfield 28, 3) := by decide +kernel
theorem dX2_giveLentWater_58 : decode cX2_giveLentWater 58 = .ok (.iload 6, 2) := by decide +kernel
theorem dX2_giveLentWater_60 : decode cX2_giveLentWater 60 = .ok (.iconst 1, 1) := by decide +kernel
theorem dX2_giveLentWater_61 : decode cX2_giveLentWater 61 = .ok (.invokevirtual 121, 3) := by decide +kernel
theorem dX2_giveLentWater_64 : decode cX2_giveLentWater 64 = .ok (.invokevirtual 128, 3) := by decide +kernel
theorem dX2_giveLentWater_67 : decode cX2_giveLentWater 67 = .ok (.astore 8, 2) := by decide +kernel
theorem dX2_giveLentWater_69 : decode cX2_giveLentWater 69 = .ok (.aload 8, 2) := by decide +kernel
theorem dX2_giveLentWater_71 : decode cX2_giveLentWater 71 = .ok (.dup, 1) := by decide +kernel
theorem dX2_giveLentWater_72 : decode cX2_giveLentWater 72 = .ok (.getfield 104, 3) := by decide +kernel
theorem dX2_giveLentWater_75 : decode cX2_giveLentWater 75 = .ok (.iload 7, 2) := by decide +kernel
theorem dX2_giveLentWater_77 : decode cX2_giveLentWater 77 = .ok (.iload 5, 2) := by decide +kernel
theorem dX2_giveLentWater_79 : decode cX2_giveLentWater 79 = .ok (.iload_n 3, 1) := by decide +kernel
theorem dX2_giveLentWater_80 : decode cX2_giveLentWater 80 = .ok (.invokestatic 107, 3) := by decide +kernel
theorem dX2_giveLentWater_83 : decode cX2_giveLentWater 83 = .ok (.iload 4, 2) := by decide +kernel
theorem dX2_giveLentWater_85 : decode cX2_giveLentWater 85 = .ok (.imul, 1) := by decide +kernel
theorem dX2_giveLentWater_86 : decode cX2_giveLentWater 86 = .ok (.iadd, 1) := by decide +kernel
theorem dX2_giveLentWater_87 : decode cX2_giveLentWater 87 = .ok (.putfield 104, 3) := by decide +kernel
theorem dX2_giveLentWater_90 : decode cX2_giveLentWater 90 = .ok (.iload 7, 2) := by decide +kernel
theorem dX2_giveLentWater_92 : decode cX2_giveLentWater 92 = .ok (.istore 5, 2) := by decide +kernel
theorem dX2_giveLentWater_94 : decode cX2_giveLentWater 94 = .ok (.iinc 6 1, 3) := by decide +kernel
theorem dX2_giveLentWater_97 : decode cX2_giveLentWater 97 = .ok (.goto (-91), 3) := by decide +kernel
theorem dX2_giveLentWater_100 : decode cX2_giveLentWater 100 = .ok (.iload 5, 2) := by decide +kernel
theorem dX2_giveLentWater_102 : decode cX2_giveLentWater 102 = .ok (.ireturn, 1) := by decide +kernel
theorem dX2_bowlsOfDay_0 : decode cX2_bowlsOfDay 0 = .ok (.iload_n 0, 1) := by decide +kernel
theorem dX2_bowlsOfDay_1 : decode cX2_bowlsOfDay 1 = .ok (.iload_n 2, 1) := by decide +kernel
theorem dX2_bowlsOfDay_2 : decode cX2_bowlsOfDay 2 = .ok (.invokestatic 131, 3) := by decide +kernel
theorem dX2_bowlsOfDay_5 : decode cX2_bowlsOfDay 5 = .ok (.istore_n 3, 1) := by decide +kernel
theorem dX2_bowlsOfDay_6 : decode cX2_bowlsOfDay 6 = .ok (.iload_n 1, 1) := by decide +kernel
theorem dX2_bowlsOfDay_7 : decode cX2_bowlsOfDay 7 = .ok (.iload_n 2, 1) := by decide +kernel
theorem dX2_bowlsOfDay_8 : decode cX2_bowlsOfDay 8 = .ok (.sipush 720, 3) := by decide +kernel
theorem dX2_bowlsOfDay_11 : decode cX2_bowlsOfDay 11 = .ok (.iadd, 1) := by decide +kernel
theorem dX2_bowlsOfDay_12 : decode cX2_bowlsOfDay 12 = .ok (.invokestatic 136, 3) := by decide +kernel
theorem dX2_bowlsOfDay_15 : decode cX2_bowlsOfDay 15 = .ok (.istore 4, 2) := by decide +kernel
theorem dX2_bowlsOfDay_17 : decode cX2_bowlsOfDay 17 = .ok (.iconst 0, 1) := by decide +kernel
theorem dX2_bowlsOfDay_18 : decode cX2_bowlsOfDay 18 = .ok (.iload 4, 2) := by decide +kernel
theorem dX2_bowlsOfDay_20 : decode cX2_bowlsOfDay 20 = .ok (.iload_n 3, 1) := by decide +kernel
theorem dX2_bowlsOfDay_21 : decode cX2_bowlsOfDay 21 = .ok (.isub, 1) := by decide +kernel
theorem dX2_bowlsOfDay_22 : decode cX2_bowlsOfDay 22 = .ok (.invokestatic 131, 3) := by decide +kernel
theorem dX2_bowlsOfDay_25 : decode cX2_bowlsOfDay 25 = .ok (.ireturn, 1) := by decide +kernel
theorem dX2_deliverSales_0 : decode cX2_deliverSales 0 = .ok (.iconst 0, 1) := by decide +kernel
theorem dX2_deliverSales_1 : decode cX2_deliverSales 1 = .ok (.istore_n 1, 1) := by decide +kernel
theorem dX2_deliverSales_2 : decode cX2_deliverSales 2 = .ok (.iload_n 1, 1) := by decide +kernel
theorem dX2_deliverSales_3 : decode cX2_deliverSales 3 = .ok (.aload_n 0, 1) := by decide +kernel
theorem dX2_deliverSales_4 : decode cX2_deliverSales 4 = .ok (.getfield 32, 3) := by decide +kernel
theorem dX2_deliverSales_7 : decode cX2_deliverSales 7 = .ok (.invokevirtual 118, 3) := by decide +kernel
theorem dX2_deliverSales_10 : decode cX2_deliverSales 10 = .ok (.if_icmp .ge 99, 3) := by decide +kernel
theorem dX2_deliverSales_13 : decode cX2_deliverSales 13 = .ok (.aload_n 0, 1) := by decide +kernel
theorem dX2_deliverSales_14 : decode cX2_deliverSales 14 = .ok (.getfield 21, 3) := by decide +kernel
theorem dX2_deliverSales_17 : decode cX2_deliverSales 17 = .ok (.aload_n 0, 1) := by decide +kernel
theorem dX2_deliverSales_18 : decode cX2_deliverSales 18 = .ok (.getfield 32, 3) := by decide +kernel
theorem dX2_deliverSales_21 : decode cX2_deliverSales 21 = .ok (.iload_n 1, 1) := by decide +kernel
theorem dX2_deliverSales_22 : decode cX2_deliverSales 22 = .ok (.iconst 0, 1) := by decide +kernel
theorem dX2_deliverSales_23 : decode cX2_deliverSales 23 = .ok (.invokevirtual 121, 3) := by decide +kernel
theorem dX2_deliverSales_26 : decode cX2_deliverSales 26 = .ok (.invokevirtual 128, 3) := by decide +kernel
theorem dX2_deliverSales_29 : decode cX2_deliverSales 29 = .ok (.astore_n 2, 1) := by decide +kernel
theorem dX2_deliverSales_30 : decode cX2_deliverSales 30 = .ok (.aload_n 0, 1) := by decide +kernel
theorem dX2_deliverSales_31 : decode cX2_deliverSales 31 = .ok (.getfield 21, 3) := by decide +kernel
theorem dX2_deliverSales_34 : decode cX2_deliverSales 34 = .ok (.aload_n 0, 1) := by decide +kernel
theorem dX2_deliverSales_35 : decode cX2_deliverSales 35 = .ok (.getfield 32, 3) := by decide +kernel
theorem dX2_deliverSales_38 : decode cX2_deliverSales 38 = .ok (.iload_n 1, 1) := by decide +kernel
theorem dX2_deliverSales_39 : decode cX2_deliverSales 39 = .ok (.iconst 1, 1) := by decide +kernel
theorem dX2_deliverSales_40 : decode cX2_deliverSales 40 = .ok (.invokevirtual 121, 3) := by decide +kernel
theorem dX2_deliverSales_43 : decode cX2_deliverSales 43 = .ok (.invokevirtual 128, 3) := by decide +kernel
theorem dX2_deliverSales_46 : decode cX2_deliverSales 46 = .ok (.astore_n 3, 1) := by decide +kernel
theorem dX2_deliverSales_47 : decode cX2_deliverSales 47 = .ok (.aload_n 0, 1) := by decide +kernel
theorem dX2_deliverSales_48 : decode cX2_deliverSales 48 = .ok (.getfield 32, 3) := by decide +kernel
theorem dX2_deliverSales_51 : decode cX2_deliverSales 51 = .ok (.iload_n 1, 1) := by decide +kernel
theorem dX2_deliverSales_52 : decode cX2_deliverSales 52 = .ok (.iconst 2, 1) := by decide +kernel
theorem dX2_deliverSales_53 : decode cX2_deliverSales 53 = .ok (.invokevirtual 121, 3) := by decide +kernel
theorem dX2_deliverSales_56 : decode cX2_deliverSales 56 = .ok (.istore 4, 2) := by decide +kernel
theorem dX2_deliverSales_58 : decode cX2_deliverSales 58 = .ok (.iload 4, 2) := by decide +kernel
theorem dX2_deliverSales_60 : decode cX2_deliverSales 60 = .ok (.aload_n 2, 1) := by decide +kernel
theorem dX2_deliverSales_61 : decode cX2_deliverSales 61 = .ok (.getfield 139, 3) := by decide +kernel
theorem dX2_deliverSales_64 : decode cX2_deliverSales 64 = .ok (.invokestatic 136, 3) := by decide +kernel
theorem dX2_deliverSales_67 : decode cX2_deliverSales 67 = .ok (.istore 5, 2) := by decide +kernel
theorem dX2_deliverSales_69 : decode cX2_deliverSales 69 = .ok (.aload_n 2, 1) := by decide +kernel
theorem dX2_deliverSales_70 : decode cX2_deliverSales 70 = .ok (.dup, 1) := by decide +kernel
theorem dX2_deliverSales_71 : decode cX2_deliverSales 71 = .ok (.getfield 139, 3) := by decide +kernel
theorem dX2_deliverSales_74 : decode cX2_deliverSales 74 = .ok (.iload 5, 2) := by decide +kernel
theorem dX2_deliverSales_76 : decode cX2_deliverSales 76 = .ok (.isub, 1) := by decide +kernel
theorem dX2_deliverSales_77 : decode cX2_deliverSales 77 = .ok (.putfield 139, 3) := by decide +kernel
theorem dX2_deliverSales_80 : decode cX2_deliverSales 80 = .ok (.aload_n 3, 1) := by decide +kernel
theorem dX2_deliverSales_81 : decode cX2_deliverSales 81 = .ok (.dup, 1) := by decide +kernel
theorem dX2_deliverSales_82 : decode cX2_deliverSales 82 = .ok (.getfield 139, 3) := by decide +kernel
theorem dX2_deliverSales_85 : decode cX2_deliverSales 85 = .ok (.iload 5, 2) := by decide +kernel
theorem dX2_deliverSales_87 : decode cX2_deliverSales 87 = .ok (.iadd, 1) := by decide +kernel
theorem dX2_deliverSales_88 : decode cX2_deliverSales 88 = .ok (.putfield 139, 3) := by decide +kernel
theorem dX2_deliverSales_91 : decode cX2_deliverSales 91 = .ok (.aload_n 2, 1) := by decide +kernel
theorem dX2_deliverSales_92 : decode cX2_deliverSales 92 = .ok (.aload_n 3, 1) := by decide +kernel
theorem dX2_deliverSales_93 : decode cX2_deliverSales 93 = .ok (.iconst 2, 1) := by decide +kernel
theorem dX2_deliverSales_94 : decode cX2_deliverSales 94 = .ok (.iload 4, 2) := by decide +kernel
theorem dX2_deliverSales_96 : decode cX2_deliverSales 96 = .ok (.iload 5, 2) := by decide +kernel
theorem dX2_deliverSales_98 : decode cX2_deliverSales 98 = .ok (.isub, 1) := by decide +kernel
theorem dX2_deliverSales_99 : decode cX2_deliverSales 99 = .ok (.imul, 1) := by decide +kernel
theorem dX2_deliverSales_100 : decode cX2_deliverSales 100 = .ok (.invokevirtual 142, 3) := by decide +kernel
theorem dX2_deliverSales_103 : decode cX2_deliverSales 103 = .ok (.iinc 1 1, 3) := by decide +kernel
theorem dX2_deliverSales_106 : decode cX2_deliverSales 106 = .ok (.goto (-104), 3) := by decide +kernel
theorem dX2_deliverSales_109 : decode cX2_deliverSales 109 = .ok (.aload_n 0, 1) := by decide +kernel
theorem dX2_deliverSales_110 : decode cX2_deliverSales 110 = .ok (.getfield 32, 3) := by decide +kernel
theorem dX2_deliverSales_113 : decode cX2_deliverSales 113 = .ok (.invokevirtual 146, 3) := by decide +kernel
theorem dX2_deliverSales_116 : decode cX2_deliverSales 116 = .ok (.return_, 1) := by decide +kernel
theorem dX2_unlentBowls_0 : decode cX2_unlentBowls 0 = .ok (.aload_n 1, 1) := by decide +kernel
theorem dX2_unlentBowls_1 : decode cX2_unlentBowls 1 = .ok (.getfield 95, 3) := by decide +kernel
theorem dX2_unlentBowls_4 : decode cX2_unlentBowls 4 = .ok (.aload_n 0, 1) := by decide +kernel
theorem dX2_unlentBowls_5 : decode cX2_unlentBowls 5 = .ok (.getfield 28, 3) := by decide +kernel
theorem dX2_unlentBowls_8 : decode cX2_unlentBowls 8 = .ok (.iconst 0, 1) := by decide +kernel
theorem dX2_unlentBowls_9 : decode cX2_unlentBowls 9 = .ok (.aload_n 1, 1) := by decide +kernel
theorem dX2_unlentBowls_10 : decode cX2_unlentBowls 10 = .ok (.getfield 125, 3) := by decide +kernel
theorem dX2_unlentBowls_13 : decode cX2_unlentBowls 13 = .ok (.invokevirtual 164, 3) := by decide +kernel
theorem dX2_unlentBowls_16 : decode cX2_unlentBowls 16 = .ok (.isub, 1) := by decide +kernel
theorem dX2_unlentBowls_17 : decode cX2_unlentBowls 17 = .ok (.ireturn, 1) := by decide +kernel
theorem dX2_userOf_0 : decode cX2_userOf 0 = .ok (.aload_n 0, 1) := by decide +kernel
theorem dX2_userOf_1 : decode cX2_userOf 1 = .ok (.getfield 21, 3) := by decide +kernel
theorem dX2_userOf_4 : decode cX2_userOf 4 = .ok (.iload_n 1, 1) := by decide +kernel
theorem dX2_userOf_5 : decode cX2_userOf 5 = .ok (.invokevirtual 167, 3) := by decide +kernel
theorem dX2_userOf_8 : decode cX2_userOf 8 = .ok (.istore_n 2, 1) := by decide +kernel
theorem dX2_userOf_9 : decode cX2_userOf 9 = .ok (.iload_n 2, 1) := by decide +kernel
theorem dX2_userOf_10 : decode cX2_userOf 10 = .ok (.iconst (-1), 1) := by decide +kernel
theorem dX2_userOf_11 : decode cX2_userOf 11 = .ok (.if_icmp .ne 5, 3) := by decide +kernel
theorem dX2_userOf_14 : decode cX2_userOf 14 = .ok (.iconst (-1), 1) := by decide +kernel
theorem dX2_userOf_15 : decode cX2_userOf 15 = .ok (.ireturn, 1) := by decide +kernel
theorem dX2_userOf_16 : decode cX2_userOf 16 = .ok (.aload_n 0, 1) := by decide +kernel
theorem dX2_userOf_17 : decode cX2_userOf 17 = .ok (.getfield 21, 3) := by decide +kernel
theorem dX2_userOf_20 : decode cX2_userOf 20 = .ok (.iload_n 2, 1) := by decide +kernel
theorem dX2_userOf_21 : decode cX2_userOf 21 = .ok (.invokevirtual 128, 3) := by decide +kernel
theorem dX2_userOf_24 : decode cX2_userOf 24 = .ok (.astore_n 3, 1) := by decide +kernel
theorem dX2_userOf_25 : decode cX2_userOf 25 = .ok (.aload_n 0, 1) := by decide +kernel
theorem dX2_userOf_26 : decode cX2_userOf 26 = .ok (.getfield 21, 3) := by decide +kernel
theorem dX2_userOf_29 : decode cX2_userOf 29 = .ok (.aload_n 3, 1) := by decide +kernel
theorem dX2_userOf_30 : decode cX2_userOf 30 = .ok (.invokevirtual 170, 3) := by decide +kernel
theorem dX2_userOf_33 : decode cX2_userOf 33 = .ok (.aload_n 3, 1) := by decide +kernel
theorem dX2_userOf_34 : decode cX2_userOf 34 = .ok (.getfield 95, 3) := by decide +kernel
theorem dX2_userOf_37 : decode cX2_userOf 37 = .ok (.iadd, 1) := by decide +kernel
theorem dX2_userOf_38 : decode cX2_userOf 38 = .ok (.iconst 1, 1) := by decide +kernel
theorem dX2_userOf_39 : decode cX2_userOf 39 = .ok (.isub, 1) := by decide +kernel
theorem dX2_userOf_40 : decode cX2_userOf 40 = .ok (.iload_n 1, 1) := by decide +kernel
theorem dX2_userOf_41 : decode cX2_userOf 41 = .ok (.isub, 1) := by decide +kernel
theorem dX2_userOf_42 : decode cX2_userOf 42 = .ok (.istore 4, 2) := by decide +kernel
theorem dX2_userOf_44 : decode cX2_userOf 44 = .ok (.iconst 0, 1) := by decide +kernel
theorem dX2_userOf_45 : decode cX2_userOf 45 = .ok (.istore 5, 2) := by decide +kernel
theorem dX2_userOf_47 : decode cX2_userOf 47 = .ok (.iload 5, 2) := by decide +kernel
theorem dX2_userOf_49 : decode cX2_userOf 49 = .ok (.aload_n 0, 1) := by decide +kernel
theorem dX2_userOf_50 : decode cX2_userOf 50 = .ok (.getfield 28, 3) := by decide +kernel
theorem dX2_userOf_53 : decode cX2_userOf 53 = .ok (.invokevirtual 118, 3) := by decide +kernel
theorem dX2_userOf_56 : decode cX2_userOf 56 = .ok (.if_icmp .ge 64, 3) := by decide +kernel
theorem dX2_userOf_59 : decode cX2_userOf 59 = .ok (.aload_n 0, 1) := by decide +kernel
theorem dX2_userOf_60 : decode cX2_userOf 60 = .ok (.getfield 28, 3) := by decide +kernel
theorem dX2_userOf_63 : decode cX2_userOf 63 = .ok (.iload 5, 2) := by decide +kernel
theorem dX2_userOf_65 : decode cX2_userOf 65 = .ok (.iconst 0, 1) := by decide +kernel
theorem dX2_userOf_66 : decode cX2_userOf 66 = .ok (.invokevirtual 121, 3) := by decide +kernel
theorem dX2_userOf_69 : decode cX2_userOf 69 = .ok (.iload_n 2, 1) := by decide +kernel
theorem dX2_userOf_70 : decode cX2_userOf 70 = .ok (.if_icmp .ne 44, 3) := by decide +kernel
theorem dX2_userOf_73 : decode cX2_userOf 73 = .ok (.iload 4, 2) := by decide +kernel
theorem dX2_userOf_75 : decode cX2_userOf 75 = .ok (.aload_n 0, 1) := by decide +kernel
theorem dX2_userOf_76 : decode cX2_userOf 76 = .ok (.getfield 28, 3) := by decide +kernel
theorem dX2_userOf_79 : decode cX2_userOf 79 = .ok (.iload 5, 2) := by decide +kernel
theorem dX2_userOf_81 : decode cX2_userOf 81 = .ok (.iconst 2, 1) := by decide +kernel
theorem dX2_userOf_82 : decode cX2_userOf 82 = .ok (.invokevirtual 121, 3) := by decide +kernel
theorem dX2_userOf_85 : decode cX2_userOf 85 = .ok (.if_icmp .ge 14, 3) := by decide +kernel
theorem dX2_userOf_88 : decode cX2_userOf 88 = .ok (.aload_n 0, 1) := by decide +kernel
theorem dX2_userOf_89 : decode cX2_userOf 89 = .ok (.getfield 28, 3) := by decide +kernel
theorem dX2_userOf_92 : decode cX2_userOf 92 = .ok (.iload 5, 2) := by decide +kernel
theorem dX2_userOf_94 : decode cX2_userOf 94 = .ok (.iconst 1, 1) := by decide +kernel
theorem dX2_userOf_95 : decode cX2_userOf 95 = .ok (.invokevirtual 121, 3) := by decide +kernel
theorem dX2_userOf_98 : decode cX2_userOf 98 = .ok (.ireturn, 1) := by decide +kernel
theorem dX2_userOf_99 : decode cX2_userOf 99 = .ok (.iload 4, 2) := by decide +kernel
theorem dX2_userOf_101 : decode cX2_userOf 101 = .ok (.aload_n 0, 1) := by decide +kernel
theorem dX2_userOf_102 : decode cX2_userOf 102 = .ok (.getfield 28, 3) := by decide +kernel
theorem dX2_userOf_105 : decode cX2_userOf 105 = .ok (.iload 5, 2) := by decide +kernel
theorem dX2_userOf_107 : decode cX2_userOf 107 = .ok (.iconst 2, 1) := by decide +kernel
theorem dX2_userOf_108 : decode cX2_userOf 108 = .ok (.invokevirtual 121, 3) := by decide +kernel
theorem dX2_userOf_111 : decode cX2_userOf 111 = .ok (.isub, 1) := by decide +kernel
theorem dX2_userOf_112 : decode cX2_userOf 112 = .ok (.istore 4, 2) := by decide +kernel
theorem dX2_userOf_114 : decode cX2_userOf 114 = .ok (.iinc 5 1, 3) := by decide +kernel
theorem dX2_userOf_117 : decode cX2_userOf 117 = .ok (.goto (-70), 3) := by decide +kernel
theorem dX2_userOf_120 : decode cX2_userOf 120 = .ok (.iload_n 2, 1) := by decide +kernel
theorem dX2_userOf_121 : decode cX2_userOf 121 = .ok (.ireturn, 1) := by decide +kernel
theorem dX2_askOwner_0 : decode cX2_askOwner 0 = .ok (.iload_n 2, 1) := by decide +kernel
theorem dX2_askOwner_1 : decode cX2_askOwner 1 = .ok (.tableswitch 174 0 13 #[71, 76, 81, 86, 91, 96, 101, 106, 115, 135, 154, 159, 164, 169], 71) := by decide +kernel
theorem dX2_askOwner_72 : decode cX2_askOwner 72 = .ok (.aload_n 1, 1) := by decide +kernel
theorem dX2_askOwner_73 : decode cX2_askOwner 73 = .ok (.getfield 95, 3) := by decide +kernel
theorem dX2_askOwner_76 : decode cX2_askOwner 76 = .ok (.ireturn, 1) := by decide +kernel
theorem dX2_askOwner_77 : decode cX2_askOwner 77 = .ok (.aload_n 1, 1) := by decide +kernel
theorem dX2_askOwner_78 : decode cX2_askOwner 78 = .ok (.getfield 174, 3) := by decide +kernel
theorem dX2_askOwner_81 : decode cX2_askOwner 81 = .ok (.ireturn, 1) := by decide +kernel
theorem dX2_askOwner_82 : decode cX2_askOwner 82 = .ok (.aload_n 1, 1) := by decide +kernel
theorem dX2_askOwner_83 : decode cX2_askOwner 83 = .ok (.getfield 177, 3) := by decide +kernel
theorem dX2_askOwner_86 : decode cX2_askOwner 86 = .ok (.ireturn, 1) := by decide +kernel
theorem dX2_askOwner_87 : decode cX2_askOwner 87 = .ok (.aload_n 1, 1) := by decide +kernel
theorem dX2_askOwner_88 : decode cX2_askOwner 88 = .ok (.getfield 180, 3) := by decide +kernel
theorem dX2_askOwner_91 : decode cX2_askOwner 91 = .ok (.ireturn, 1) := by decide +kernel
theorem dX2_askOwner_92 : decode cX2_askOwner 92 = .ok (.aload_n 1, 1) := by decide +kernel
theorem dX2_askOwner_93 : decode cX2_askOwner 93 = .ok (.getfield 183, 3) := by decide +kernel
theorem dX2_askOwner_96 : decode cX2_askOwner 96 = .ok (.ireturn, 1) := by decide +kernel
theorem dX2_askOwner_97 : decode cX2_askOwner 97 = .ok (.aload_n 1, 1) := by decide +kernel
theorem dX2_askOwner_98 : decode cX2_askOwner 98 = .ok (.getfield 186, 3) := by decide +kernel
theorem dX2_askOwner_101 : decode cX2_askOwner 101 = .ok (.ireturn, 1) := by decide +kernel
theorem dX2_askOwner_102 : decode cX2_askOwner 102 = .ok (.aload_n 1, 1) := by decide +kernel
theorem dX2_askOwner_103 : decode cX2_askOwner 103 = .ok (.getfield 139, 3) := by decide +kernel
theorem dX2_askOwner_106 : decode cX2_askOwner 106 = .ok (.ireturn, 1) := by decide +kernel
theorem dX2_askOwner_107 : decode cX2_askOwner 107 = .ok (.aload_n 0, 1) := by decide +kernel
theorem dX2_askOwner_108 : decode cX2_askOwner 108 = .ok (.getfield 21, 3) := by decide +kernel
theorem dX2_askOwner_111 : decode cX2_askOwner 111 = .ok (.aload_n 1, 1) := by decide +kernel
theorem dX2_askOwner_112 : decode cX2_askOwner 112 = .ok (.invokevirtual 189, 3) := by decide +kernel
theorem dX2_askOwner_115 : decode cX2_askOwner 115 = .ok (.ireturn, 1) := by decide +kernel
theorem dX2_askOwner_116 : decode cX2_askOwner 116 = .ok (.aload_n 1, 1) := by decide +kernel
theorem dX2_askOwner_117 : decode cX2_askOwner 117 = .ok (.getfield 95, 3) := by decide +kernel
theorem dX2_askOwner_120 : decode cX2_askOwner 120 = .ok (.ifCond .le 14, 3) := by decide +kernel
theorem dX2_askOwner_123 : decode cX2_askOwner 123 = .ok (.aload_n 0, 1) := by decide +kernel
theorem dX2_askOwner_124 : decode cX2_askOwner 124 = .ok (.getfield 21, 3) := by decide +kernel
theorem dX2_askOwner_127 : decode cX2_askOwner 127 = .ok (.aload_n 1, 1) := by decide +kernel
theorem dX2_askOwner_128 : decode cX2_askOwner 128 = .ok (.invokevirtual 170, 3) := by decide +kernel
theorem dX2_askOwner_131 : decode cX2_askOwner 131 = .ok (.goto 4, 3) := by decide +kernel
theorem dX2_askOwner_134 : decode cX2_askOwner 134 = .ok (.iconst (-1), 1) := by decide +kernel
theorem dX2_askOwner_135 : decode cX2_askOwner 135 = .ok (.ireturn, 1) := by decide +kernel
theorem dX2_askOwner_136 : decode cX2_askOwner 136 = .ok (.aload_n 0, 1) := by decide +kernel
theorem dX2_askOwner_137 : decode cX2_askOwner 137 = .ok (.aload_n 1, 1) := by decide +kernel
theorem dX2_askOwner_138 : decode cX2_askOwner 138 = .ok (.invokevirtual 192, 3) := by decide +kernel
theorem dX2_askOwner_141 : decode cX2_askOwner 141 = .ok (.aload_n 0, 1) := by decide +kernel
theorem dX2_askOwner_142 : decode cX2_askOwner 142 = .ok (.getfield 28, 3) := by decide +kernel
theorem dX2_askOwner_145 : decode cX2_askOwner 145 = .ok (.iconst 1, 1) := by decide +kernel
theorem dX2_askOwner_146 : decode cX2_askOwner 146 = .ok (.aload_n 1, 1) := by decide +kernel
theorem dX2_askOwner_147 : decode cX2_askOwner 147 = .ok (.getfield 125, 3) := by decide +kernel
theorem dX2_askOwner_150 : decode cX2_askOwner 150 = .ok (.invokevirtual 164, 3) := by decide +kernel
theorem dX2_askOwner_153 : decode cX2_askOwner 153 = .ok (.iadd, 1) := by decide +kernel
theorem dX2_askOwner_154 : decode cX2_askOwner 154 = .ok (.ireturn, 1) := by decide +kernel
theorem dX2_askOwner_155 : decode cX2_askOwner 155 = .ok (.aload_n 1, 1) := by decide +kernel
theorem dX2_askOwner_156 : decode cX2_askOwner 156 = .ok (.getfield 195, 3) := by decide +kernel
theorem dX2_askOwner_159 : decode cX2_askOwner 159 = .ok (.ireturn, 1) := by decide +kernel
theorem dX2_askOwner_160 : decode cX2_askOwner 160 = .ok (.aload_n 1, 1) := by decide +kernel
theorem dX2_askOwner_161 : decode cX2_askOwner 161 = .ok (.invokevirtual 198, 3) := by decide +kernel
theorem dX2_askOwner_164 : decode cX2_askOwner 164 = .ok (.ireturn, 1) := by decide +kernel
theorem dX2_askOwner_165 : decode cX2_askOwner 165 = .ok (.aload_n 1, 1) := by decide +kernel
theorem dX2_askOwner_166 : decode cX2_askOwner 166 = .ok (.getfield 115, 3) := by decide +kernel
theorem dX2_askOwner_169 : decode cX2_askOwner 169 = .ok (.ireturn, 1) := by decide +kernel
theorem dX2_askOwner_170 : decode cX2_askOwner 170 = .ok (.aload_n 1, 1) := by decide +kernel
theorem dX2_askOwner_171 : decode cX2_askOwner 171 = .ok (.getfield 201, 3) := by decide +kernel
theorem dX2_askOwner_174 : decode cX2_askOwner 174 = .ok (.ireturn, 1) := by decide +kernel
theorem dX2_askOwner_175 : decode cX2_askOwner 175 = .ok (.iconst (-1), 1) := by decide +kernel
theorem dX2_askOwner_176 : decode cX2_askOwner 176 = .ok (.ireturn, 1) := by decide +kernel
theorem dX2_askAll_0 : decode cX2_askAll 0 = .ok (.iload_n 1, 1) := by decide +kernel
theorem dX2_askAll_1 : decode cX2_askAll 1 = .ok (.tableswitch 192 0 15 #[79, 84, 89, 97, 105, 113, 121, 129, 137, 145, 153, 161, 169, 174, 179, 184], 79) := by decide +kernel
theorem dX2_askAll_80 : decode cX2_askAll 80 = .ok (.aload_n 0, 1) := by decide +kernel
theorem dX2_askAll_81 : decode cX2_askAll 81 = .ok (.getfield 45, 3) := by decide +kernel
theorem dX2_askAll_84 : decode cX2_askAll 84 = .ok (.ireturn, 1) := by decide +kernel
theorem dX2_askAll_85 : decode cX2_askAll 85 = .ok (.aload_n 0, 1) := by decide +kernel
theorem dX2_askAll_86 : decode cX2_askAll 86 = .ok (.invokevirtual 58, 3) := by decide +kernel
theorem dX2_askAll_89 : decode cX2_askAll 89 = .ok (.ireturn, 1) := by decide +kernel
theorem dX2_askAll_90 : decode cX2_askAll 90 = .ok (.aload_n 0, 1) := by decide +kernel
theorem dX2_askAll_91 : decode cX2_askAll 91 = .ok (.getfield 12, 3) := by decide +kernel
theorem dX2_askAll_94 : decode cX2_askAll 94 = .ok (.getfield 204, 3) := by decide +kernel
theorem dX2_askAll_97 : decode cX2_askAll 97 = .ok (.ireturn, 1) := by decide +kernel
theorem dX2_askAll_98 : decode cX2_askAll 98 = .ok (.aload_n 0, 1) := by decide +kernel
theorem dX2_askAll_99 : decode cX2_askAll 99 = .ok (.getfield 12, 3) := by decide +kernel
theorem dX2_askAll_102 : decode cX2_askAll 102 = .ok (.invokevirtual 85, 3) := by decide +kernel
theorem dX2_askAll_105 : decode cX2_askAll 105 = .ok (.ireturn, 1) := by decide +kernel
theorem dX2_askAll_106 : decode cX2_askAll 106 = .ok (.aload_n 0, 1) := by decide +kernel
theorem dX2_askAll_107 : decode cX2_askAll 107 = .ok (.getfield 12, 3) := by decide +kernel
theorem dX2_askAll_110 : decode cX2_askAll 110 = .ok (.getfield 207, 3) := by decide +kernel
theorem dX2_askAll_113 : decode cX2_askAll 113 = .ok (.ireturn, 1) := by decide +kernel
theorem dX2_askAll_114 : decode cX2_askAll 114 = .ok (.aload_n 0, 1) := by decide +kernel
theorem dX2_askAll_115 : decode cX2_askAll 115 = .ok (.getfield 12, 3) := by decide +kernel
theorem dX2_askAll_118 : decode cX2_askAll 118 = .ok (.getfield 210, 3) := by decide +kernel
theorem dX2_askAll_121 : decode cX2_askAll 121 = .ok (.ireturn, 1) := by decide +kernel
theorem dX2_askAll_122 : decode cX2_askAll 122 = .ok (.aload_n 0, 1) := by decide +kernel
theorem dX2_askAll_123 : decode cX2_askAll 123 = .ok (.getfield 12, 3) := by decide +kernel
theorem dX2_askAll_126 : decode cX2_askAll 126 = .ok (.getfield 213, 3) := by decide +kernel
theorem dX2_askAll_129 : decode cX2_askAll 129 = .ok (.ireturn, 1) := by decide +kernel
theorem dX2_askAll_130 : decode cX2_askAll 130 = .ok (.aload_n 0, 1) := by decide +kernel
theorem dX2_askAll_131 : decode cX2_askAll 131 = .ok (.getfield 21, 3) := by decide +kernel
theorem dX2_askAll_134 : decode cX2_askAll 134 = .ok (.invokevirtual 88, 3) := by decide +kernel
theorem dX2_askAll_137 : decode cX2_askAll 137 = .ok (.ireturn, 1) := by decide +kernel
theorem dX2_askAll_138 : decode cX2_askAll 138 = .ok (.aload_n 0, 1) := by decide +kernel
theorem dX2_askAll_139 : decode cX2_askAll 139 = .ok (.getfield 21, 3) := by decide +kernel
theorem dX2_askAll_142 : decode cX2_askAll 142 = .ok (.invokevirtual 216, 3) := by decide +kernel
theorem dX2_askAll_145 : decode cX2_askAll 145 = .ok (.ireturn, 1) := by decide +kernel
theorem dX2_askAll_146 : decode cX2_askAll 146 = .ok (.aload_n 0, 1) := by decide +kernel
theorem dX2_askAll_147 : decode cX2_askAll 147 = .ok (.getfield 21, 3) := by decide +kernel
theorem dX2_askAll_150 : decode cX2_askAll 150 = .ok (.invokevirtual 219, 3) := by decide +kernel
theorem dX2_askAll_153 : decode cX2_askAll 153 = .ok (.ireturn, 1) := by decide +kernel
theorem dX2_askAll_154 : decode cX2_askAll 154 = .ok (.aload_n 0, 1) := by decide +kernel
theorem dX2_askAll_155 : decode cX2_askAll 155 = .ok (.getfield 28, 3) := by decide +kernel
theorem dX2_askAll_158 : decode cX2_askAll 158 = .ok (.invokevirtual 118, 3) := by decide +kernel
theorem dX2_askAll_161 : decode cX2_askAll 161 = .ok (.ireturn, 1) := by decide +kernel
theorem dX2_askAll_162 : decode cX2_askAll 162 = .ok (.aload_n 0, 1) := by decide +kernel
theorem dX2_askAll_163 : decode cX2_askAll 163 = .ok (.getfield 32, 3) := by decide +kernel
theorem dX2_askAll_166 : decode cX2_askAll 166 = .ok (.invokevirtual 118, 3) := by decide +kernel
theorem dX2_askAll_169 : decode cX2_askAll 169 = .ok (.ireturn, 1) := by decide +kernel
theorem dX2_askAll_170 : decode cX2_askAll 170 = .ok (.aload_n 0, 1) := by decide +kernel
theorem dX2_askAll_171 : decode cX2_askAll 171 = .ok (.getfield 49, 3) := by decide +kernel
theorem dX2_askAll_174 : decode cX2_askAll 174 = .ok (.ireturn, 1) := by decide +kernel
theorem dX2_askAll_175 : decode cX2_askAll 175 = .ok (.aload_n 0, 1) := by decide +kernel
theorem dX2_askAll_176 : decode cX2_askAll 176 = .ok (.getfield 52, 3) := by decide +kernel
theorem dX2_askAll_179 : decode cX2_askAll 179 = .ok (.ireturn, 1) := by decide +kernel
theorem dX2_askAll_180 : decode cX2_askAll 180 = .ok (.aload_n 0, 1) := by decide +kernel
theorem dX2_askAll_181 : decode cX2_askAll 181 = .ok (.getfield 55, 3) := by decide +kernel
theorem dX2_askAll_184 : decode cX2_askAll 184 = .ok (.ireturn, 1) := by decide +kernel
theorem dX2_askAll_185 : decode cX2_askAll 185 = .ok (.aload_n 0, 1) := by decide +kernel
theorem dX2_askAll_186 : decode cX2_askAll 186 = .ok (.getfield 21, 3) := by decide +kernel
theorem dX2_askAll_189 : decode cX2_askAll 189 = .ok (.invokevirtual 222, 3) := by decide +kernel
theorem dX2_askAll_192 : decode cX2_askAll 192 = .ok (.ireturn, 1) := by decide +kernel
theorem dX2_askAll_193 : decode cX2_askAll 193 = .ok (.iconst (-1), 1) := by decide +kernel
theorem dX2_askAll_194 : decode cX2_askAll 194 = .ok (.ireturn, 1) := by decide +kernel
theorem dX3_init_0 : decode cX3_init 0 = .ok (.aload_n 0, 1) := by decide +kernel
theorem dX3_init_1 : decode cX3_init 1 = .ok (.invokespecial 3, 3) := by decide +kernel
theorem dX3_init_4 : decode cX3_init 4 = .ok (.aload_n 0, 1) := by decide +kernel
theorem dX3_init_5 : decode cX3_init 5 = .ok (.iload_n 1, 1) := by decide +kernel
theorem dX3_init_6 : decode cX3_init 6 = .ok (.putfield 9, 3) := by decide +kernel
theorem dX3_init_9 : decode cX3_init 9 = .ok (.return_, 1) := by decide +kernel
theorem dX3_becomeLike_0 : decode cX3_becomeLike 0 = .ok (.aload_n 0, 1) := by decide +kernel
theorem dX3_becomeLike_1 : decode cX3_becomeLike 1 = .ok (.aload_n 1, 1) := by decide +kernel
theorem dX3_becomeLike_2 : decode cX3_becomeLike 2 = .ok (.getfield 15, 3) := by decide +kernel
theorem dX3_becomeLike_5 : decode cX3_becomeLike 5 = .ok (.putfield 15, 3) := by decide +kernel
theorem dX3_becomeLike_8 : decode cX3_becomeLike 8 = .ok (.aload_n 0, 1) := by decide +kernel
theorem dX3_becomeLike_9 : decode cX3_becomeLike 9 = .ok (.aload_n 1, 1) := by decide +kernel
theorem dX3_becomeLike_10 : decode cX3_becomeLike 10 = .ok (.getfield 19, 3) := by decide +kernel
theorem dX3_becomeLike_13 : decode cX3_becomeLike 13 = .ok (.putfield 19, 3) := by decide +kernel
theorem dX3_becomeLike_16 : decode cX3_becomeLike 16 = .ok (.aload_n 0, 1) := by decide +kernel
theorem dX3_becomeLike_17 : decode cX3_becomeLike 17 = .ok (.aload_n 1, 1) := by decide +kernel
theorem dX3_becomeLike_18 : decode cX3_becomeLike 18 = .ok (.getfield 22, 3) := by decide +kernel
theorem dX3_becomeLike_21 : decode cX3_becomeLike 21 = .ok (.putfield 22, 3) := by decide +kernel
theorem dX3_becomeLike_24 : decode cX3_becomeLike 24 = .ok (.aload_n 0, 1) := by decide +kernel
theorem dX3_becomeLike_25 : decode cX3_becomeLike 25 = .ok (.aload_n 1, 1) := by decide +kernel
theorem dX3_becomeLike_26 : decode cX3_becomeLike 26 = .ok (.getfield 25, 3) := by decide +kernel
theorem dX3_becomeLike_29 : decode cX3_becomeLike 29 = .ok (.putfield 25, 3) := by decide +kernel
theorem dX3_becomeLike_32 : decode cX3_becomeLike 32 = .ok (.aload_n 0, 1) := by decide +kernel
theorem dX3_becomeLike_33 : decode cX3_becomeLike 33 = .ok (.aload_n 1, 1) := by decide +kernel
theorem dX3_becomeLike_34 : decode cX3_becomeLike 34 = .ok (.getfield 28, 3) := by decide +kernel
theorem dX3_becomeLike_37 : decode cX3_becomeLike 37 = .ok (.putfield 28, 3) := by decide +kernel
theorem dX3_becomeLike_40 : decode cX3_becomeLike 40 = .ok (.aload_n 0, 1) := by decide +kernel
theorem dX3_becomeLike_41 : decode cX3_becomeLike 41 = .ok (.aload_n 1, 1) := by decide +kernel
theorem dX3_becomeLike_42 : decode cX3_becomeLike 42 = .ok (.getfield 31, 3) := by decide +kernel
theorem dX3_becomeLike_45 : decode cX3_becomeLike 45 = .ok (.putfield 31, 3) := by decide +kernel
theorem dX3_becomeLike_48 : decode cX3_becomeLike 48 = .ok (.aload_n 0, 1) := by decide +kernel
theorem dX3_becomeLike_49 : decode cX3_becomeLike 49 = .ok (.aload_n 1, 1) := by decide +kernel
theorem dX3_becomeLike_50 : decode cX3_becomeLike 50 = .ok (.getfield 34, 3) := by decide +kernel
theorem dX3_becomeLike_53 : decode cX3_becomeLike 53 = .ok (.putfield 34, 3) := by decide +kernel
theorem dX3_becomeLike_56 : decode cX3_becomeLike 56 = .ok (.aload_n 0, 1) := by decide +kernel
theorem dX3_becomeLike_57 : decode cX3_becomeLike 57 = .ok (.aload_n 1, 1) := by decide +kernel
theorem dX3_becomeLike_58 : decode cX3_becomeLike 58 = .ok (.getfield 37, 3) := by decide +kernel
theorem dX3_becomeLike_61 : decode cX3_becomeLike 61 = .ok (.putfield 37, 3) := by decide +kernel
theorem dX3_becomeLike_64 : decode cX3_becomeLike 64 = .ok (.aload_n 0, 1) := by decide +kernel
theorem dX3_becomeLike_65 : decode cX3_becomeLike 65 = .ok (.aload_n 1, 1) := by decide +kernel
theorem dX3_becomeLike_66 : decode cX3_becomeLike 66 = .ok (.getfield 40, 3) := by decide +kernel
theorem dX3_becomeLike_69 : decode cX3_becomeLike 69 = .ok (.putfield 40, 3) := by decide +kernel
theorem dX3_becomeLike_72 : decode cX3_becomeLike 72 = .ok (.aload_n 0, 1) := by decide +kernel
theorem dX3_becomeLike_73 : decode cX3_becomeLike 73 = .ok (.aload_n 1, 1) := by decide +kernel
theorem dX3_becomeLike_74 : decode cX3_becomeLike 74 = .ok (.getfield 43, 3) := by decide +kernel
theorem dX3_becomeLike_77 : decode cX3_becomeLike 77 = .ok (.putfield 43, 3) := by decide +kernel
theorem dX3_becomeLike_80 : decode cX3_becomeLike 80 = .ok (.aload_n 0, 1) := by decide +kernel
theorem dX3_becomeLike_81 : decode cX3_becomeLike 81 = .ok (.aload_n 1, 1) := by decide +kernel
theorem dX3_becomeLike_82 : decode cX3_becomeLike 82 = .ok (.getfield 46, 3) := by decide +kernel
theorem dX3_becomeLike_85 : decode cX3_becomeLike 85 = .ok (.putfield 46, 3) := by decide +kernel
theorem dX3_becomeLike_88 : decode cX3_becomeLike 88 = .ok (.aload_n 0, 1) := by decide +kernel
theorem dX3_becomeLike_89 : decode cX3_becomeLike 89 = .ok (.aload_n 1, 1) := by decide +kernel
theorem dX3_becomeLike_90 : decode cX3_becomeLike 90 = .ok (.getfield 49, 3) := by decide +kernel
theorem dX3_becomeLike_93 : decode cX3_becomeLike 93 = .ok (.putfield 49, 3) := by decide +kernel
theorem dX3_becomeLike_96 : decode cX3_becomeLike 96 = .ok (.aload_n 0, 1) := by decide +kernel
theorem dX3_becomeLike_97 : decode cX3_becomeLike 97 = .ok (.aload_n 1, 1) := by decide +kernel
theorem dX3_becomeLike_98 : decode cX3_becomeLike 98 = .ok (.getfield 52, 3) := by decide +kernel
theorem dX3_becomeLike_101 : decode cX3_becomeLike 101 = .ok (.putfield 52, 3) := by decide +kernel
theorem dX3_becomeLike_104 : decode cX3_becomeLike 104 = .ok (.aload_n 0, 1) := by decide +kernel
theorem dX3_becomeLike_105 : decode cX3_becomeLike 105 = .ok (.aload_n 1, 1) := by decide +kernel
theorem dX3_becomeLike_106 : decode cX3_becomeLike 106 = .ok (.getfield 55, 3) := by decide +kernel
theorem dX3_becomeLike_109 : decode cX3_becomeLike 109 = .ok (.putfield 55, 3) := by decide +kernel
theorem dX3_becomeLike_112 : decode cX3_becomeLike 112 = .ok (.return_, 1) := by decide +kernel
theorem dX3_settle_0 : decode cX3_settle 0 = .ok (.aload_n 0, 1) := by decide +kernel
theorem dX3_settle_1 : decode cX3_settle 1 = .ok (.iload_n 1, 1) := by decide +kernel
theorem dX3_settle_2 : decode cX3_settle 2 = .ok (.putfield 19, 3) := by decide +kernel
theorem dX3_settle_5 : decode cX3_settle 5 = .ok (.aload_n 0, 1) := by decide +kernel
theorem dX3_settle_6 : decode cX3_settle 6 = .ok (.iload_n 2, 1) := by decide +kernel
theorem dX3_settle_7 : decode cX3_settle 7 = .ok (.putfield 22, 3) := by decide +kernel
theorem dX3_settle_10 : decode cX3_settle 10 = .ok (.aload_n 0, 1) := by decide +kernel
theorem dX3_settle_11 : decode cX3_settle 11 = .ok (.iload_n 3, 1) := by decide +kernel
theorem dX3_settle_12 : decode cX3_settle 12 = .ok (.putfield 25, 3) := by decide +kernel
theorem dX3_settle_15 : decode cX3_settle 15 = .ok (.aload_n 0, 1) := by decide +kernel
theorem dX3_settle_16 : decode cX3_settle 16 = .ok (.iload 4, 2) := by decide +kernel
theorem dX3_settle_18 : decode cX3_settle 18 = .ok (.putfield 28, 3) := by decide +kernel
theorem dX3_settle_21 : decode cX3_settle 21 = .ok (.aload_n 0, 1) := by decide +kernel
theorem dX3_settle_22 : decode cX3_settle 22 = .ok (.bipush 50, 2) := by decide +kernel
theorem dX3_settle_24 : decode cX3_settle 24 = .ok (.putfield 31, 3) := by decide +kernel
theorem dX3_settle_27 : decode cX3_settle 27 = .ok (.return_, 1) := by decide +kernel
theorem dX3_payTo_0 : decode cX3_payTo 0 = .ok (.aload_n 0, 1) := by decide +kernel
theorem dX3_payTo_1 : decode cX3_payTo 1 = .ok (.dup, 1) := by decide +kernel
theorem dX3_payTo_2 : decode cX3_payTo 2 = .ok (.getfield 22, 3) := by decide +kernel
theorem dX3_payTo_5 : decode cX3_payTo 5 = .ok (.iload_n 2, 1) := by decide +kernel
theorem dX3_payTo_6 : decode cX3_payTo 6 = .ok (.isub, 1) := by decide +kernel
theorem dX3_payTo_7 : decode cX3_payTo 7 = .ok (.putfield 22, 3) := by decide +kernel
theorem dX3_payTo_10 : decode cX3_payTo 10 = .ok (.aload_n 1, 1) := by decide +kernel
theorem dX3_payTo_11 : decode cX3_payTo 11 = .ok (.dup, 1) := by decide +kernel
theorem dX3_payTo_12 : decode cX3_payTo 12 = .ok (.getfield 22, 3) := by decide +kernel
theorem dX3_payTo_15 : decode cX3_payTo 15 = .ok (.iload_n 2, 1) := by decide +kernel
theorem dX3_payTo_16 : decode cX3_payTo 16 = .ok (.iadd, 1) := by decide +kernel
theorem dX3_payTo_17 : decode cX3_payTo 17 = .ok (.putfield 22, 3) := by decide +kernel
theorem dX3_payTo_20 : decode cX3_payTo 20 = .ok (.return_, 1) := by decide +kernel
theorem dX3_pollenPalms_0 : decode cX3_pollenPalms 0 = .ok (.aload_n 0, 1) := by decide +kernel
theorem dX3_pollenPalms_1 : decode cX3_pollenPalms 1 = .ok (.getfield 28, 3) := by decide +kernel
theorem dX3_pollenPalms_4 : decode cX3_pollenPalms 4 = .ok (.bipush 20, 2) := by decide +kernel
theorem dX3_pollenPalms_6 : decode cX3_pollenPalms 6 = .ok (.imul, 1) := by decide +kernel
theorem dX3_pollenPalms_7 : decode cX3_pollenPalms 7 = .ok (.aload_n 0, 1) := by decide +kernel
theorem dX3_pollenPalms_8 : decode cX3_pollenPalms 8 = .ok (.getfield 43, 3) := by decide +kernel
theorem dX3_pollenPalms_11 : decode cX3_pollenPalms 11 = .ok (.iadd, 1) := by decide +kernel
theorem dX3_pollenPalms_12 : decode cX3_pollenPalms 12 = .ok (.ireturn, 1) := by decide +kernel
theorem dX3_takeFlowing_0 : decode cX3_takeFlowing 0 = .ok (.aload_n 0, 1) := by decide +kernel
theorem dX3_takeFlowing_1 : decode cX3_takeFlowing 1 = .ok (.aload_n 0, 1) := by decide +kernel
theorem dX3_takeFlowing_2 : decode cX3_takeFlowing 2 = .ok (.getfield 46, 3) := by decide +kernel
theorem dX3_takeFlowing_5 : decode cX3_takeFlowing 5 = .ok (.bipush 100, 2) := by decide +kernel
theorem dX3_takeFlowing_7 : decode cX3_takeFlowing 7 = .ok (.iconst 2, 1) := by decide +kernel
theorem dX3_takeFlowing_8 : decode cX3_takeFlowing 8 = .ok (.iload_n 1, 1) := by decide +kernel
theorem dX3_takeFlowing_9 : decode cX3_takeFlowing 9 = .ok (.imul, 1) := by decide +kernel
theorem dX3_takeFlowing_10 : decode cX3_takeFlowing 10 = .ok (.isub, 1) := by decide +kernel
theorem dX3_takeFlowing_11 : decode cX3_takeFlowing 11 = .ok (.imul, 1) := by decide +kernel
theorem dX3_takeFlowing_12 : decode cX3_takeFlowing 12 = .ok (.bipush 100, 2) := by decide +kernel
theorem dX3_takeFlowing_14 : decode cX3_takeFlowing 14 = .ok (.idiv, 1) := by decide +kernel
theorem dX3_takeFlowing_15 : decode cX3_takeFlowing 15 = .ok (.putfield 49, 3) := by decide +kernel
theorem dX3_takeFlowing_18 : decode cX3_takeFlowing 18 = .ok (.aload_n 0, 1) := by decide +kernel
theorem dX3_takeFlowing_19 : decode cX3_takeFlowing 19 = .ok (.dup, 1) := by decide +kernel
theorem dX3_takeFlowing_20 : decode cX3_takeFlowing 20 = .ok (.getfield 52, 3) := by decide +kernel
theorem dX3_takeFlowing_23 : decode cX3_takeFlowing 23 = .ok (.aload_n 0, 1) := by decide +kernel
theorem dX3_takeFlowing_24 : decode cX3_takeFlowing 24 = .ok (.getfield 49, 3) := by decide +kernel
theorem dX3_takeFlowing_27 : decode cX3_takeFlowing 27 = .ok (.iadd, 1) := by decide +kernel
theorem dX3_takeFlowing_28 : decode cX3_takeFlowing 28 = .ok (.putfield 52, 3) := by decide +kernel
theorem dX3_takeFlowing_31 : decode cX3_takeFlowing 31 = .ok (.aload_n 0, 1) := by decide +kernel
theorem dX3_takeFlowing_32 : decode cX3_takeFlowing 32 = .ok (.iconst 0, 1) := by decide +kernel
theorem dX3_takeFlowing_33 : decode cX3_takeFlowing 33 = .ok (.putfield 46, 3) := by decide +kernel
theorem dX3_takeFlowing_36 : decode cX3_takeFlowing 36 = .ok (.return_, 1) := by decide +kernel
theorem dX3_growPalms_0 : decode cX3_growPalms 0 = .ok (.aload_n 0, 1) := by decide +kernel
theorem dX3_growPalms_1 : decode cX3_growPalms 1 = .ok (.getfield 25, 3) := by decide +kernel
theorem dX3_growPalms_4 : decode cX3_growPalms 4 = .ok (.bipush 20, 2) := by decide +kernel
theorem dX3_growPalms_6 : decode cX3_growPalms 6 = .ok (.imul, 1) := by decide +kernel
theorem dX3_growPalms_7 : decode cX3_growPalms 7 = .ok (.istore_n 2, 1) := by decide +kernel
theorem dX3_growPalms_8 : decode cX3_growPalms 8 = .ok (.iload_n 2, 1) := by decide +kernel
theorem dX3_growPalms_9 : decode cX3_growPalms 9 = .ok (.iconst 1, 1) := by decide +kernel
theorem dX3_growPalms_10 : decode cX3_growPalms 10 = .ok (.if_icmp .ge 4, 3) := by decide +kernel
theorem dX3_growPalms_13 : decode cX3_growPalms 13 = .ok (.return_, 1) := by decide +kernel
theorem dX3_growPalms_14 : decode cX3_growPalms 14 = .ok (.bipush 40, 2) := by decide +kernel
theorem dX3_growPalms_16 : decode cX3_growPalms 16 = .ok (.aload_n 0, 1) := by decide +kernel
theorem dX3_growPalms_17 : decode cX3_growPalms 17 = .ok (.getfield 49, 3) := by decide +kernel
theorem dX3_growPalms_20 : decode cX3_growPalms 20 = .ok (.bipush 30, 2) := by decide +kernel
theorem dX3_growPalms_22 : decode cX3_growPalms 22 = .ok (.imul, 1) := by decide +kernel
theorem dX3_growPalms_23 : decode cX3_growPalms 23 = .ok (.iload_n 2, 1) := by decide +kernel
theorem dX3_growPalms_24 : decode cX3_growPalms 24 = .ok (.idiv, 1) := by decide +kernel
theorem dX3_growPalms_25 : decode cX3_growPalms 25 = .ok (.invokestatic 68, 3) := by decide +kernel
theorem dX3_growPalms_28 : decode cX3_growPalms 28 = .ok (.istore_n 3, 1) := by decide +kernel
theorem dX3_growPalms_29 : decode cX3_growPalms 29 = .ok (.aload_n 0, 1) := by decide +kernel
theorem dX3_growPalms_30 : decode cX3_growPalms 30 = .ok (.iconst 0, 1) := by decide +kernel
theorem dX3_growPalms_31 : decode cX3_growPalms 31 = .ok (.bipush 99, 2) := by decide +kernel
theorem dX3_growPalms_33 : decode cX3_growPalms 33 = .ok (.aload_n 0, 1) := by decide +kernel
theorem dX3_growPalms_34 : decode cX3_growPalms 34 = .ok (.getfield 31, 3) := by decide +kernel
theorem dX3_growPalms_37 : decode cX3_growPalms 37 = .ok (.iload_n 3, 1) := by decide +kernel
theorem dX3_growPalms_38 : decode cX3_growPalms 38 = .ok (.iadd, 1) := by decide +kernel
theorem dX3_growPalms_39 : decode cX3_growPalms 39 = .ok (.invokestatic 68, 3) := by decide +kernel
theorem dX3_growPalms_42 : decode cX3_growPalms 42 = .ok (.bipush 6, 2) := by decide +kernel
theorem dX3_growPalms_44 : decode cX3_growPalms 44 = .ok (.isub, 1) := by decide +kernel
theorem dX3_growPalms_45 : decode cX3_growPalms 45 = .ok (.invokestatic 71, 3) := by decide +kernel
theorem dX3_growPalms_48 : decode cX3_growPalms 48 = .ok (.putfield 31, 3) := by decide +kernel
theorem dX3_growPalms_51 : decode cX3_growPalms 51 = .ok (.aload_n 0, 1) := by decide +kernel
theorem dX3_growPalms_52 : decode cX3_growPalms 52 = .ok (.getfield 49, 3) := by decide +kernel
theorem dX3_growPalms_55 : decode cX3_growPalms 55 = .ok (.iconst 2, 1) := by decide +kernel
theorem dX3_growPalms_56 : decode cX3_growPalms 56 = .ok (.iload_n 2, 1) := by decide +kernel
theorem dX3_growPalms_57 : decode cX3_growPalms 57 = .ok (.imul, 1) := by decide +kernel
theorem dX3_growPalms_58 : decode cX3_growPalms 58 = .ok (.if_icmp .le 18, 3) := by decide +kernel
theorem dX3_growPalms_61 : decode cX3_growPalms 61 = .ok (.aload_n 0, 1) := by decide +kernel
theorem dX3_growPalms_62 : decode cX3_growPalms 62 = .ok (.bipush 99, 2) := by decide +kernel
theorem dX3_growPalms_64 : decode cX3_growPalms 64 = .ok (.aload_n 0, 1) := by decide +kernel
theorem dX3_growPalms_65 : decode cX3_growPalms 65 = .ok (.getfield 34, 3) := by decide +kernel
theorem dX3_growPalms_68 : decode cX3_growPalms 68 = .ok (.iconst 1, 1) := by decide +kernel
theorem dX3_growPalms_69 : decode cX3_growPalms 69 = .ok (.iadd, 1) := by decide +kernel
theorem dX3_growPalms_70 : decode cX3_growPalms 70 = .ok (.invokestatic 68, 3) := by decide +kernel
theorem dX3_growPalms_73 : decode cX3_growPalms 73 = .ok (.putfield 34, 3) := by decide +kernel
theorem dX3_growPalms_76 : decode cX3_growPalms 76 = .ok (.iload_n 1, 1) := by decide +kernel
theorem dX3_growPalms_77 : decode cX3_growPalms 77 = .ok (.ifCond .eq 45, 3) := by decide +kernel
theorem dX3_growPalms_80 : decode cX3_growPalms 80 = .ok (.aload_n 0, 1) := by decide +kernel
theorem dX3_growPalms_81 : decode cX3_growPalms 81 = .ok (.getfield 31, 3) := by decide +kernel
theorem dX3_growPalms_84 : decode cX3_growPalms 84 = .ok (.bipush 15, 2) := by decide +kernel
theorem dX3_growPalms_86 : decode cX3_growPalms 86 = .ok (.if_icmp .ge 36, 3) := by decide +kernel
theorem dX3_growPalms_89 : decode cX3_growPalms 89 = .ok (.aload_n 0, 1) := by decide +kernel
theorem dX3_growPalms_90 : decode cX3_growPalms 90 = .ok (.dup, 1) := by decide +kernel
theorem dX3_growPalms_91 : decode cX3_growPalms 91 = .ok (.getfield 25, 3) := by decide +kernel
theorem dX3_growPalms_94 : decode cX3_growPalms 94 = .ok (.aload_n 0, 1) := by decide +kernel
theorem dX3_growPalms_95 : decode cX3_growPalms 95 = .ok (.getfield 25, 3) := by decide +kernel
theorem dX3_growPalms_98 : decode cX3_growPalms 98 = .ok (.bipush 10, 2) := by decide +kernel
theorem dX3_growPalms_100 : decode cX3_growPalms 100 = .ok (.idiv, 1) := by decide +kernel
theorem dX3_growPalms_101 : decode cX3_growPalms 101 = .ok (.iconst 1, 1) := by decide +kernel
theorem dX3_growPalms_102 : decode cX3_growPalms 102 = .ok (.iadd, 1) := by decide +kernel
theorem dX3_growPalms_103 : decode cX3_growPalms 103 = .ok (.isub, 1) := by decide +kernel
theorem dX3_growPalms_104 : decode cX3_growPalms 104 = .ok (.putfield 25, 3) := by decide +kernel
theorem dX3_growPalms_107 : decode cX3_growPalms 107 = .ok (.aload_n 0, 1) := by decide +kernel
theorem dX3_growPalms_108 : decode cX3_growPalms 108 = .ok (.aload_n 0, 1) := by decide +kernel
theorem dX3_growPalms_109 : decode cX3_growPalms 109 = .ok (.getfield 40, 3) := by decide +kernel
theorem dX3_growPalms_112 : decode cX3_growPalms 112 = .ok (.aload_n 0, 1) := by decide +kernel
theorem dX3_growPalms_113 : decode cX3_growPalms 113 = .ok (.getfield 25, 3) := by decide +kernel
theorem dX3_growPalms_116 : decode cX3_growPalms 116 = .ok (.invokestatic 68, 3) := by decide +kernel
theorem dX3_growPalms_119 : decode cX3_growPalms 119 = .ok (.putfield 40, 3) := by decide +kernel
theorem dX3_growPalms_122 : decode cX3_growPalms 122 = .ok (.return_, 1) := by decide +kernel
theorem dX3_reap_0 : decode cX3_reap 0 = .ok (.aload_n 0, 1) := by decide +kernel
theorem dX3_reap_1 : decode cX3_reap 1 = .ok (.aload_n 0, 1) := by decide +kernel
theorem dX3_reap_2 : decode cX3_reap 2 = .ok (.getfield 40, 3) := by decide +kernel
theorem dX3_reap_5 : decode cX3_reap 5 = .ok (.aload_n 0, 1) := by decide +kernel
theorem dX3_reap_6 : decode cX3_reap 6 = .ok (.getfield 31, 3) := by decide +kernel
theorem dX3_reap_9 : decode cX3_reap 9 = .ok (.imul, 1) := by decide +kernel
theorem dX3_reap_10 : decode cX3_reap 10 = .ok (.bipush 100, 2) := by decide +kernel
theorem dX3_reap_12 : decode cX3_reap 12 = .ok (.aload_n 0, 1) := by decide +kernel
theorem dX3_reap_13 : decode cX3_reap 13 = .ok (.getfield 34, 3) := by decide +kernel
theorem dX3_reap_16 : decode cX3_reap 16 = .ok (.isub, 1) := by decide +kernel
theorem dX3_reap_17 : decode cX3_reap 17 = .ok (.imul, 1) := by decide +kernel
theorem dX3_reap_18 : decode cX3_reap 18 = .ok (.sipush 1000, 3) := by decide +kernel
theorem dX3_reap_21 : decode cX3_reap 21 = .ok (.idiv, 1) := by decide +kernel
theorem dX3_reap_22 : decode cX3_reap 22 = .ok (.putfield 55, 3) := by decide +kernel
theorem dX3_reap_25 : decode cX3_reap 25 = .ok (.aload_n 0, 1) := by decide +kernel
theorem dX3_reap_26 : decode cX3_reap 26 = .ok (.dup, 1) := by decide +kernel
theorem dX3_reap_27 : decode cX3_reap 27 = .ok (.getfield 37, 3) := by decide +kernel
theorem dX3_reap_30 : decode cX3_reap 30 = .ok (.aload_n 0, 1) := by decide +kernel
theorem dX3_reap_31 : decode cX3_reap 31 = .ok (.getfield 55, 3) := by decide +kernel
theorem dX3_reap_34 : decode cX3_reap 34 = .ok (.iadd, 1) := by decide +kernel
theorem dX3_reap_35 : decode cX3_reap 35 = .ok (.putfield 37, 3) := by decide +kernel
theorem dX3_reap_38 : decode cX3_reap 38 = .ok (.aload_n 0, 1) := by decide +kernel
theorem dX3_reap_39 : decode cX3_reap 39 = .ok (.iconst 0, 1) := by decide +kernel
theorem dX3_reap_40 : decode cX3_reap 40 = .ok (.putfield 40, 3) := by decide +kernel
theorem dX3_reap_43 : decode cX3_reap 43 = .ok (.aload_n 0, 1) := by decide +kernel
theorem dX3_reap_44 : decode cX3_reap 44 = .ok (.iconst 0, 1) := by decide +kernel
theorem dX3_reap_45 : decode cX3_reap 45 = .ok (.putfield 43, 3) := by decide +kernel
theorem dX3_reap_48 : decode cX3_reap 48 = .ok (.return_, 1) := by decide +kernel
theorem dX4_init_0 : decode cX4_init 0 = .ok (.aload_n 0, 1) := by decide +kernel
theorem dX4_init_1 : decode cX4_init 1 = .ok (.invokespecial 3, 3) := by decide +kernel
theorem dX4_init_4 : decode cX4_init 4 = .ok (.aload_n 0, 1) := by decide +kernel
theorem dX4_init_5 : decode cX4_init 5 = .ok (.bipush 10, 2) := by decide +kernel
theorem dX4_init_7 : decode cX4_init 7 = .ok (.anewarray 9, 3) := by decide +kernel
theorem dX4_init_10 : decode cX4_init 10 = .ok (.putfield 11, 3) := by decide +kernel
theorem dX4_init_13 : decode cX4_init 13 = .ok (.aload_n 0, 1) := by decide +kernel
theorem dX4_init_14 : decode cX4_init 14 = .ok (.bipush 10, 2) := by decide +kernel
theorem dX4_init_16 : decode cX4_init 16 = .ok (.newarray .int, 2) := by decide +kernel
theorem dX4_init_18 : decode cX4_init 18 = .ok (.putfield 17, 3) := by decide +kernel
theorem dX4_init_21 : decode cX4_init 21 = .ok (.aload_n 0, 1) := by decide +kernel
theorem dX4_init_22 : decode cX4_init 22 = .ok (.new 9, 3) := by decide +kernel
theorem dX4_init_25 : decode cX4_init 25 = .ok (.dup, 1) := by decide +kernel
theorem dX4_init_26 : decode cX4_init 26 = .ok (.iconst (-1), 1) := by decide +kernel
theorem dX4_init_27 : decode cX4_init 27 = .ok (.invokespecial 21, 3) := by decide +kernel
theorem dX4_init_30 : decode cX4_init 30 = .ok (.putfield 24, 3) := by decide +kernel
theorem dX4_init_33 : decode cX4_init 33 = .ok (.iconst 0, 1) := by decide +kernel
theorem dX4_init_34 : decode cX4_init 34 = .ok (.istore_n 1, 1) := by decide +kernel
theorem dX4_init_35 : decode cX4_init 35 = .ok (.iload_n 1, 1) := by decide +kernel
theorem dX4_init_36 : decode cX4_init 36 = .ok (.aload_n 0, 1) := by decide +kernel
theorem dX4_init_37 : decode cX4_init 37 = .ok (.getfield 11, 3) := by decide +kernel
theorem dX4_init_40 : decode cX4_init 40 = .ok (.arraylength, 1) := by decide +kernel
theorem dX4_init_41 : decode cX4_init 41 = .ok (.if_icmp .ge 23, 3) := by decide +kernel
theorem dX4_init_44 : decode cX4_init 44 = .ok (.aload_n 0, 1) := by decide +kernel
theorem dX4_init_45 : decode cX4_init 45 = .ok (.getfield 11, 3) := by decide +kernel
theorem dX4_init_48 : decode cX4_init 48 = .ok (.iload_n 1, 1) := by decide +kernel
theorem dX4_init_49 : decode cX4_init 49 = .ok (.new 9, 3) := by decide +kernel
theorem dX4_init_52 : decode cX4_init 52 = .ok (.dup, 1) := by decide +kernel
theorem dX4_init_53 : decode cX4_init 53 = .ok (.iload_n 1, 1) := by decide +kernel
theorem dX4_init_54 : decode cX4_init 54 = .ok (.invokespecial 21, 3) := by decide +kernel
theorem dX4_init_57 : decode cX4_init 57 = .ok (.aastore, 1) := by decide +kernel
theorem dX4_init_58 : decode cX4_init 58 = .ok (.iinc 1 1, 3) := by decide +kernel
theorem dX4_init_61 : decode cX4_init 61 = .ok (.goto (-26), 3) := by decide +kernel
theorem dX4_init_64 : decode cX4_init 64 = .ok (.return_, 1) := by decide +kernel
theorem dX4_becomeLike_0 : decode cX4_becomeLike 0 = .ok (.iconst 0, 1) := by decide +kernel
theorem dX4_becomeLike_1 : decode cX4_becomeLike 1 = .ok (.istore_n 2, 1) := by decide +kernel
theorem dX4_becomeLike_2 : decode cX4_becomeLike 2 = .ok (.iload_n 2, 1) := by decide +kernel
theorem dX4_becomeLike_3 : decode cX4_becomeLike 3 = .ok (.bipush 10, 2) := by decide +kernel
theorem dX4_becomeLike_5 : decode cX4_becomeLike 5 = .ok (.if_icmp .ge 22, 3) := by decide +kernel
theorem dX4_becomeLike_8 : decode cX4_becomeLike 8 = .ok (.aload_n 0, 1) := by decide +kernel
theorem dX4_becomeLike_9 : decode cX4_becomeLike 9 = .ok (.iload_n 2, 1) := by decide +kernel
theorem dX4_becomeLike_10 : decode cX4_becomeLike 10 = .ok (.invokevirtual 28, 3) := by decide +kernel
theorem dX4_becomeLike_13 : decode cX4_becomeLike 13 = .ok (.aload_n 1, 1) := by decide +kernel
theorem dX4_becomeLike_14 : decode cX4_becomeLike 14 = .ok (.iload_n 2, 1) := by decide +kernel
theorem dX4_becomeLike_15 : decode cX4_becomeLike 15 = .ok (.invokevirtual 28, 3) := by decide +kernel
theorem dX4_becomeLike_18 : decode cX4_becomeLike 18 = .ok (.invokevirtual 32, 3) := by decide +kernel
theorem dX4_becomeLike_21 : decode cX4_becomeLike 21 = .ok (.iinc 2 1, 3) := by decide +kernel
theorem dX4_becomeLike_24 : decode cX4_becomeLike 24 = .ok (.goto (-22), 3) := by decide +kernel
theorem dX4_becomeLike_27 : decode cX4_becomeLike 27 = .ok (.aload_n 0, 1) := by decide +kernel
theorem dX4_becomeLike_28 : decode cX4_becomeLike 28 = .ok (.aload_n 1, 1) := by decide +kernel
theorem dX4_becomeLike_29 : decode cX4_becomeLike 29 = .ok (.getfield 36, 3) := by decide +kernel
theorem dX4_becomeLike_32 : decode cX4_becomeLike 32 = .ok (.putfield 36, 3) := by decide +kernel
theorem dX4_becomeLike_35 : decode cX4_becomeLike 35 = .ok (.iconst 0, 1) := by decide +kernel
theorem dX4_becomeLike_36 : decode cX4_becomeLike 36 = .ok (.istore_n 2, 1) := by decide +kernel
theorem dX4_becomeLike_37 : decode cX4_becomeLike 37 = .ok (.iload_n 2, 1) := by decide +kernel
theorem dX4_becomeLike_38 : decode cX4_becomeLike 38 = .ok (.aload_n 0, 1) := by decide +kernel
theorem dX4_becomeLike_39 : decode cX4_becomeLike 39 = .ok (.getfield 36, 3) := by decide +kernel
theorem dX4_becomeLike_42 : decode cX4_becomeLike 42 = .ok (.if_icmp .ge 22, 3) := by decide +kernel
theorem dX4_becomeLike_45 : decode cX4_becomeLike 45 = .ok (.aload_n 0, 1) := by decide +kernel
theorem dX4_becomeLike_46 : decode cX4_becomeLike 46 = .ok (.iload_n 2, 1) := by decide +kernel
theorem dX4_becomeLike_47 : decode cX4_becomeLike 47 = .ok (.aload_n 1, 1) := by decide +kernel
theorem dX4_becomeLike_48 : decode cX4_becomeLike 48 = .ok (.iload_n 2, 1) := by decide +kernel
theorem dX4_becomeLike_49 : decode cX4_becomeLike 49 = .ok (.invokevirtual 40, 3) := by decide +kernel
theorem dX4_becomeLike_52 : decode cX4_becomeLike 52 = .ok (.getfield 43, 3) := by decide +kernel
theorem dX4_becomeLike_55 : decode cX4_becomeLike 55 = .ok (.invokevirtual 46, 3) := by decide +kernel
theorem dX4_becomeLike_58 : decode cX4_becomeLike 58 = .ok (.iinc 2 1, 3) := by decide +kernel
theorem dX4_becomeLike_61 : decode cX4_becomeLike 61 = .ok (.goto (-24), 3) := by decide +kernel
theorem dX4_becomeLike_64 : decode cX4_becomeLike 64 = .ok (.aload_n 0, 1) := by decide +kernel
theorem dX4_becomeLike_65 : decode cX4_becomeLike 65 = .ok (.aload_n 1, 1) := by decide +kernel
theorem dX4_becomeLike_66 : decode cX4_becomeLike 66 = .ok (.getfield 50, 3) := by decide +kernel
theorem dX4_becomeLike_69 : decode cX4_becomeLike 69 = .ok (.putfield 50, 3) := by decide +kernel
theorem dX4_becomeLike_72 : decode cX4_becomeLike 72 = .ok (.return_, 1) := by decide +kernel
theorem dX4_numbered_0 : decode cX4_numbered 0 = .ok (.iload_n 1, 1) := by decide +kernel
theorem dX4_numbered_1 : decode cX4_numbered 1 = .ok (.ifCond .lt 21, 3) := by decide +kernel
theorem dX4_numbered_4 : decode cX4_numbered 4 = .ok (.iload_n 1, 1) := by decide +kernel
theorem dX4_numbered_5 : decode cX4_numbered 5 = .ok (.aload_n 0, 1) := by decide +kernel
theorem dX4_numbered_6 : decode cX4_numbered 6 = .ok (.getfield 11, 3) := by decide +kernel
theorem dX4_numbered_9 : decode cX4_numbered 9 = .ok (.arraylength, 1) := by decide +kernel
theorem dX4_numbered_10 : decode cX4_numbered 10 = .ok (.if_icmp .ge 12, 3) := by decide +kernel
theorem dX4_numbered_13 : decode cX4_numbered 13 = .ok (.aload_n 0, 1) := by decide +kernel
theorem dX4_numbered_14 : decode cX4_numbered 14 = .ok (.getfield 11, 3) := by decide +kernel
theorem dX4_numbered_17 : decode cX4_numbered 17 = .ok (.iload_n 1, 1) := by decide +kernel
theorem dX4_numbered_18 : decode cX4_numbered 18 = .ok (.aaload, 1) := by decide +kernel
theorem dX4_numbered_19 : decode cX4_numbered 19 = .ok (.goto 7, 3) := by decide +kernel
theorem dX4_numbered_22 : decode cX4_numbered 22 = .ok (.aload_n 0, 1) := by decide +kernel
theorem dX4_numbered_23 : decode cX4_numbered 23 = .ok (.getfield 24, 3) := by decide +kernel
theorem dX4_numbered_26 : decode cX4_numbered 26 = .ok (.areturn, 1) := by decide +kernel
theorem dX4_standing_0 : decode cX4_standing 0 = .ok (.iload_n 1, 1) := by decide +kernel
theorem dX4_standing_1 : decode cX4_standing 1 = .ok (.ifCond .lt 33, 3) := by decide +kernel
theorem dX4_standing_4 : decode cX4_standing 4 = .ok (.iload_n 1, 1) := by decide +kernel
theorem dX4_standing_5 : decode cX4_standing 5 = .ok (.aload_n 0, 1) := by decide +kernel
theorem dX4_standing_6 : decode cX4_standing 6 = .ok (.getfield 36, 3) := by decide +kernel
theorem dX4_standing_9 : decode cX4_standing 9 = .ok (.if_icmp .ge 25, 3) := by decide +kernel
theorem dX4_standing_12 : decode cX4_standing 12 = .ok (.iload_n 1, 1) := by decide +kernel
theorem dX4_standing_13 : decode cX4_standing 13 = .ok (.aload_n 0, 1) := by decide +kernel
theorem dX4_standing_14 : decode cX4_standing 14 = .ok (.getfield 17, 3) := by decide +kernel
theorem dX4_standing_17 : decode cX4_standing 17 = .ok (.arraylength, 1) := by decide +kernel
theorem dX4_standing_18 : decode cX4_standing 18 = .ok (.if_icmp .ge 16, 3) := by decide +kernel
theorem dX4_standing_21 : decode cX4_standing 21 = .ok (.aload_n 0, 1) := by decide +kernel
theorem dX4_standing_22 : decode cX4_standing 22 = .ok (.aload_n 0, 1) := by decide +kernel
theorem dX4_standing_23 : decode cX4_standing 23 = .ok (.getfield 17, 3) := by decide +kernel
theorem dX4_standing_26 : decode cX4_standing 26 = .ok (.iload_n 1, 1) := by decide +kernel
theorem dX4_standing_27 : decode cX4_standing 27 = .ok (.iaload, 1) := by decide +kernel
theorem dX4_standing_28 : decode cX4_standing 28 = .ok (.invokevirtual 28, 3) := by decide +kernel
theorem dX4_standing_31 : decode cX4_standing 31 = .ok (.goto 7, 3) := by decide +kernel
theorem dX4_standing_34 : decode cX4_standing 34 = .ok (.aload_n 0, 1) := by decide +kernel
theorem dX4_standing_35 : decode cX4_standing 35 = .ok (.getfield 24, 3) := by decide +kernel
theorem dX4_standing_38 : decode cX4_standing 38 = .ok (.areturn, 1) := by decide +kernel
theorem dX4_putAt_0 : decode cX4_putAt 0 = .ok (.iload_n 1, 1) := by decide +kernel
theorem dX4_putAt_1 : decode cX4_putAt 1 = .ok (.ifCond .lt 19, 3) := by decide +kernel
theorem dX4_putAt_4 : decode cX4_putAt 4 = .ok (.iload_n 1, 1) := by decide +kernel
theorem dX4_putAt_5 : decode cX4_putAt 5 = .ok (.aload_n 0, 1) := by decide +kernel
theorem dX4_putAt_6 : decode cX4_putAt 6 = .ok (.getfield 17, 3) := by decide +kernel
theorem dX4_putAt_9 : decode cX4_putAt 9 = .ok (.arraylength, 1) := by decide +kernel
theorem dX4_putAt_10 : decode cX4_putAt 10 = .ok (.if_icmp .ge 10, 3) := by decide +kernel
theorem dX4_putAt_13 : decode cX4_putAt 13 = .ok (.aload_n 0, 1) := by decide +kernel
theorem dX4_putAt_14 : decode cX4_putAt 14 = .ok (.getfield 17, 3) := by decide +kernel
theorem dX4_putAt_17 : decode cX4_putAt 17 = .ok (.iload_n 1, 1) := by decide +kernel
theorem dX4_putAt_18 : decode cX4_putAt 18 = .ok (.iload_n 2, 1) := by decide +kernel
theorem dX4_putAt_19 : decode cX4_putAt 19 = .ok (.iastore, 1) := by decide +kernel
theorem dX4_putAt_20 : decode cX4_putAt 20 = .ok (.return_, 1) := by decide +kernel
theorem dX4_isLiving_0 : decode cX4_isLiving 0 = .ok (.aload_n 0, 1) := by decide +kernel
theorem dX4_isLiving_1 : decode cX4_isLiving 1 = .ok (.iload_n 1, 1) := by decide +kernel
theorem dX4_isLiving_2 : decode cX4_isLiving 2 = .ok (.invokevirtual 28, 3) := by decide +kernel
theorem dX4_isLiving_5 : decode cX4_isLiving 5 = .ok (.getfield 53, 3) := by decide +kernel
theorem dX4_isLiving_8 : decode cX4_isLiving 8 = .ok (.ireturn, 1) := by decide +kernel
theorem dX4_countLiving_0 : decode cX4_countLiving 0 = .ok (.aload_n 0, 1) := by decide +kernel
theorem dX4_countLiving_1 : decode cX4_countLiving 1 = .ok (.getfield 36, 3) := by decide +kernel
theorem dX4_countLiving_4 : decode cX4_countLiving 4 = .ok (.ireturn, 1) := by decide +kernel
theorem dX4_countEver_0 : decode cX4_countEver 0 = .ok (.aload_n 0, 1) := by decide +kernel
theorem dX4_countEver_1 : decode cX4_countEver 1 = .ok (.getfield 50, 3) := by decide +kernel
theorem dX4_countEver_4 : decode cX4_countEver 4 = .ok (.ireturn, 1) := by decide +kernel
theorem dX4_hasRoomFor_0 : decode cX4_hasRoomFor 0 = .ok (.aload_n 0, 1) := by decide +kernel
theorem dX4_hasRoomFor_1 : decode cX4_hasRoomFor 1 = .ok (.getfield 50, 3) := by decide +kernel
theorem dX4_hasRoomFor_4 : decode cX4_hasRoomFor 4 = .ok (.iload_n 1, 1) := by decide +kernel
theorem dX4_hasRoomFor_5 : decode cX4_hasRoomFor 5 = .ok (.iadd, 1) := by decide +kernel
theorem dX4_hasRoomFor_6 : decode cX4_hasRoomFor 6 = .ok (.bipush 10, 2) := by decide +kernel
theorem dX4_hasRoomFor_8 : decode cX4_hasRoomFor 8 = .ok (.if_icmp .gt 7, 3) := by decide +kernel
theorem dX4_hasRoomFor_11 : decode cX4_hasRoomFor 11 = .ok (.iconst 1, 1) := by decide +kernel
theorem dX4_hasRoomFor_12 : decode cX4_hasRoomFor 12 = .ok (.goto 4, 3) := by decide +kernel
theorem dX4_hasRoomFor_15 : decode cX4_hasRoomFor 15 = .ok (.iconst 0, 1) := by decide +kernel
theorem dX4_hasRoomFor_16 : decode cX4_hasRoomFor 16 = .ok (.ireturn, 1) := by decide +kernel
theorem dX4_addLast_0 : decode cX4_addLast 0 = .ok (.aload_n 0, 1) := by decide +kernel
theorem dX4_addLast_1 : decode cX4_addLast 1 = .ok (.getfield 50, 3) := by decide +kernel
theorem dX4_addLast_4 : decode cX4_addLast 4 = .ok (.istore 5, 2) := by decide +kernel
theorem dX4_addLast_6 : decode cX4_addLast 6 = .ok (.aload_n 0, 1) := by decide +kernel
theorem dX4_addLast_7 : decode cX4_addLast 7 = .ok (.iload 5, 2) := by decide +kernel
theorem dX4_addLast_9 : decode cX4_addLast 9 = .ok (.invokevirtual 28, 3) := by decide +kernel
theorem dX4_addLast_12 : decode cX4_addLast 12 = .ok (.astore 6, 2) := by decide +kernel
theorem dX4_addLast_14 : decode cX4_addLast 14 = .ok (.aload 6, 2) := by decide +kernel
theorem dX4_addLast_16 : decode cX4_addLast 16 = .ok (.iload_n 1, 1) := by decide +kernel
theorem dX4_addLast_17 : decode cX4_addLast 17 = .ok (.iload_n 2, 1) := by decide +kernel
theorem dX4_addLast_18 : decode cX4_addLast 18 = .ok (.iload_n 3, 1) := by decide +kernel
theorem dX4_addLast_19 : decode cX4_addLast 19 = .ok (.iload 4, 2) := by decide +kernel
theorem dX4_addLast_21 : decode cX4_addLast 21 = .ok (.invokevirtual 57, 3) := by decide +kernel
theorem dX4_addLast_24 : decode cX4_addLast 24 = .ok (.aload 6, 2) := by decide +kernel
theorem dX4_addLast_26 : decode cX4_addLast 26 = .ok (.iconst 1, 1) := by decide +kernel
theorem dX4_addLast_27 : decode cX4_addLast 27 = .ok (.putfield 53, 3) := by decide +kernel
theorem dX4_addLast_30 : decode cX4_addLast 30 = .ok (.aload_n 0, 1) := by decide +kernel
theorem dX4_addLast_31 : decode cX4_addLast 31 = .ok (.aload_n 0, 1) := by decide +kernel
theorem dX4_addLast_32 : decode cX4_addLast 32 = .ok (.getfield 36, 3) := by decide +kernel
theorem dX4_addLast_35 : decode cX4_addLast 35 = .ok (.iload 5, 2) := by decide +kernel
theorem dX4_addLast_37 : decode cX4_addLast 37 = .ok (.invokevirtual 46, 3) := by decide +kernel
theorem dX4_addLast_40 : decode cX4_addLast 40 = .ok (.aload_n 0, 1) := by decide +kernel
theorem dX4_addLast_41 : decode cX4_addLast 41 = .ok (.dup, 1) := by decide +kernel
theorem dX4_addLast_42 : decode cX4_addLast 42 = .ok (.getfield 36, 3) := by decide +kernel
theorem dX4_addLast_45 : decode cX4_addLast 45 = .ok (.iconst 1, 1) := by decide +kernel
theorem dX4_addLast_46 : decode cX4_addLast 46 = .ok (.iadd, 1) := by decide +kernel
theorem dX4_addLast_47 : decode cX4_addLast 47 = .ok (.putfield 36, 3) := by decide +kernel
theorem dX4_addLast_50 : decode cX4_addLast 50 = .ok (.aload_n 0, 1) := by decide +kernel
theorem dX4_addLast_51 : decode cX4_addLast 51 = .ok (.dup, 1) := by decide +kernel
theorem dX4_addLast_52 : decode cX4_addLast 52 = .ok (.getfield 50, 3) := by decide +kernel
theorem dX4_addLast_55 : decode cX4_addLast 55 = .ok (.iconst 1, 1) := by decide +kernel
theorem dX4_addLast_56 : decode cX4_addLast 56 = .ok (.iadd, 1) := by decide +kernel
theorem dX4_addLast_57 : decode cX4_addLast 57 = .ok (.putfield 50, 3) := by decide +kernel
theorem dX4_addLast_60 : decode cX4_addLast 60 = .ok (.iload 5, 2) := by decide +kernel
theorem dX4_addLast_62 : decode cX4_addLast 62 = .ok (.ireturn, 1) := by decide +kernel
theorem dX4_placeOf_0 : decode cX4_placeOf 0 = .ok (.iconst 0, 1) := by decide +kernel
theorem dX4_placeOf_1 : decode cX4_placeOf 1 = .ok (.istore_n 2, 1) := by decide +kernel
theorem dX4_placeOf_2 : decode cX4_placeOf 2 = .ok (.iload_n 2, 1) := by decide +kernel
theorem dX4_placeOf_3 : decode cX4_placeOf 3 = .ok (.aload_n 0, 1) := by decide +kernel
theorem dX4_placeOf_4 : decode cX4_placeOf 4 = .ok (.getfield 36, 3) := by decide +kernel
theorem dX4_placeOf_7 : decode cX4_placeOf 7 = .ok (.if_icmp .ge 20, 3) := by decide +kernel
theorem dX4_placeOf_10 : decode cX4_placeOf 10 = .ok (.aload_n 0, 1) := by decide +kernel
theorem dX4_placeOf_11 : decode cX4_placeOf 11 = .ok (.iload_n 2, 1) := by decide +kernel
theorem dX4_placeOf_12 : decode cX4_placeOf 12 = .ok (.invokevirtual 40, 3) := by decide +kernel
theorem dX4_placeOf_15 : decode cX4_placeOf 15 = .ok (.aload_n 1, 1) := by decide +kernel
theorem dX4_placeOf_16 : decode cX4_placeOf 16 = .ok (.if_acmp .ne 5, 3) := by decide +kernel
theorem dX4_placeOf_19 : decode cX4_placeOf 19 = .ok (.iload_n 2, 1) := by decide +kernel
theorem dX4_placeOf_20 : decode cX4_placeOf 20 = .ok (.ireturn, 1) := by decide +kernel
theorem dX4_placeOf_21 : decode cX4_placeOf 21 = .ok (.iinc 2 1, 3) := by decide +kernel
theorem dX4_placeOf_24 : decode cX4_placeOf 24 = .ok (.goto (-22), 3) := by decide +kernel
theorem dX4_placeOf_27 : decode cX4_placeOf 27 = .ok (.iconst (-1), 1) := by decide +kernel
theorem dX4_placeOf_28 : decode cX4_placeOf 28 = .ok (.ireturn, 1) := by decide +kernel
theorem dX4_firstBowl_0 : decode cX4_firstBowl 0 = .ok (.iconst 0, 1) := by decide +kernel
theorem dX4_firstBowl_1 : decode cX4_firstBowl 1 = .ok (.istore_n 2, 1) := by decide +kernel
theorem dX4_firstBowl_2 : decode cX4_firstBowl 2 = .ok (.iconst 0, 1) := by decide +kernel
theorem dX4_firstBowl_3 : decode cX4_firstBowl 3 = .ok (.istore_n 3, 1) := by decide +kernel
theorem dX4_firstBowl_4 : decode cX4_firstBowl 4 = .ok (.iload_n 3, 1) := by decide +kernel
theorem dX4_firstBowl_5 : decode cX4_firstBowl 5 = .ok (.aload_n 0, 1) := by decide +kernel
theorem dX4_firstBowl_6 : decode cX4_firstBowl 6 = .ok (.getfield 36, 3) := by decide +kernel
theorem dX4_firstBowl_9 : decode cX4_firstBowl 9 = .ok (.if_icmp .ge 29, 3) := by decide +kernel
theorem dX4_firstBowl_12 : decode cX4_firstBowl 12 = .ok (.aload_n 0, 1) := by decide +kernel
theorem dX4_firstBowl_13 : decode cX4_firstBowl 13 = .ok (.iload_n 3, 1) := by decide +kernel
theorem dX4_firstBowl_14 : decode cX4_firstBowl 14 = .ok (.invokevirtual 40, 3) := by decide +kernel
theorem dX4_firstBowl_17 : decode cX4_firstBowl 17 = .ok (.aload_n 1, 1) := by decide +kernel
theorem dX4_firstBowl_18 : decode cX4_firstBowl 18 = .ok (.if_acmp .eq 20, 3) := by decide +kernel
theorem dX4_firstBowl_21 : decode cX4_firstBowl 21 = .ok (.iload_n 2, 1) := by decide +kernel
theorem dX4_firstBowl_22 : decode cX4_firstBowl 22 = .ok (.aload_n 0, 1) := by decide +kernel
theorem dX4_firstBowl_23 : decode cX4_firstBowl 23 = .ok (.iload_n 3, 1) := by decide +kernel
theorem dX4_firstBowl_24 : decode cX4_firstBowl 24 = .ok (.invokevirtual 40, 3) := by decide +kernel
theorem dX4_firstBowl_27 : decode cX4_firstBowl 27 = .ok (.getfield 65, 3) := by decide +kernel
theorem dX4_firstBowl_30 : decode cX4_firstBowl 30 = .ok (.iadd, 1) := by decide +kernel
theorem dX4_firstBowl_31 : decode cX4_firstBowl 31 = .ok (.istore_n 2, 1) := by decide +kernel
theorem dX4_firstBowl_32 : decode cX4_firstBowl 32 = .ok (.iinc 3 1, 3) := by decide +kernel
theorem dX4_firstBowl_35 : decode cX4_firstBowl 35 = .ok (.goto (-31), 3) := by decide +kernel
theorem dX4_firstBowl_38 : decode cX4_firstBowl 38 = .ok (.iload_n 2, 1) := by decide +kernel
theorem dX4_firstBowl_39 : decode cX4_firstBowl 39 = .ok (.ireturn, 1) := by decide +kernel
theorem dX4_holderOf_0 : decode cX4_holderOf 0 = .ok (.iconst 0, 1) := by decide +kernel
theorem dX4_holderOf_1 : decode cX4_holderOf 1 = .ok (.istore_n 2, 1) := by decide +kernel
theorem dX4_holderOf_2 : decode cX4_holderOf 2 = .ok (.iconst 0, 1) := by decide +kernel
theorem dX4_holderOf_3 : decode cX4_holderOf 3 = .ok (.istore_n 3, 1) := by decide +kernel
theorem dX4_holderOf_4 : decode cX4_holderOf 4 = .ok (.iload_n 3, 1) := by decide +kernel
theorem dX4_holderOf_5 : decode cX4_holderOf 5 = .ok (.aload_n 0, 1) := by decide +kernel
theorem dX4_holderOf_6 : decode cX4_holderOf 6 = .ok (.getfield 36, 3) := by decide +kernel
theorem dX4_holderOf_9 : decode cX4_holderOf 9 = .ok (.if_icmp .ge 34, 3) := by decide +kernel
theorem dX4_holderOf_12 : decode cX4_holderOf 12 = .ok (.iload_n 2, 1) := by decide +kernel
theorem dX4_holderOf_13 : decode cX4_holderOf 13 = .ok (.aload_n 0, 1) := by decide +kernel
theorem dX4_holderOf_14 : decode cX4_holderOf 14 = .ok (.iload_n 3, 1) := by decide +kernel
theorem dX4_holderOf_15 : decode cX4_holderOf 15 = .ok (.invokevirtual 40, 3) := by decide +kernel
theorem dX4_holderOf_18 : decode cX4_holderOf 18 = .ok (.getfield 65, 3) := by decide +kernel
theorem dX4_holderOf_21 : decode cX4_holderOf 21 = .ok (.iadd, 1) := by decide +kernel
theorem dX4_holderOf_22 : decode cX4_holderOf 22 = .ok (.istore_n 2, 1) := by decide +kernel
theorem dX4_holderOf_23 : decode cX4_holderOf 23 = .ok (.iload_n 1, 1) := by decide +kernel
theorem dX4_holderOf_24 : decode cX4_holderOf 24 = .ok (.iload_n 2, 1) := by decide +kernel
theorem dX4_holderOf_25 : decode cX4_holderOf 25 = .ok (.if_icmp .ge 12, 3) := by decide +kernel
theorem dX4_holderOf_28 : decode cX4_holderOf 28 = .ok (.aload_n 0, 1) := by decide +kernel
theorem dX4_holderOf_29 : decode cX4_holderOf 29 = .ok (.iload_n 3, 1) := by decide +kernel
theorem dX4_holderOf_30 : decode cX4_holderOf 30 = .ok (.invokevirtual 40, 3) := by decide +kernel
theorem dX4_holderOf_33 : decode cX4_holderOf 33 = .ok (.getfield 43, 3) := by decide +kernel
theorem dX4_holderOf_36 : decode cX4_holderOf 36 = .ok (.ireturn, 1) := by decide +kernel
theorem dX4_holderOf_37 : decode cX4_holderOf 37 = .ok (.iinc 3 1, 3) := by decide +kernel
theorem dX4_holderOf_40 : decode cX4_holderOf 40 = .ok (.goto (-36), 3) := by decide +kernel
theorem dX4_holderOf_43 : decode cX4_holderOf 43 = .ok (.iconst (-1), 1) := by decide +kernel
theorem dX4_holderOf_44 : decode cX4_holderOf 44 = .ok (.ireturn, 1) := by decide +kernel
theorem dX4_ownedBowls_0 : decode cX4_ownedBowls 0 = .ok (.iconst 0, 1) := by decide +kernel
theorem dX4_ownedBowls_1 : decode cX4_ownedBowls 1 = .ok (.istore_n 1, 1) := by decide +kernel
theorem dX4_ownedBowls_2 : decode cX4_ownedBowls 2 = .ok (.iconst 0, 1) := by decide +kernel
theorem dX4_ownedBowls_3 : decode cX4_ownedBowls 3 = .ok (.istore_n 2, 1) := by decide +kernel
theorem dX4_ownedBowls_4 : decode cX4_ownedBowls 4 = .ok (.iload_n 2, 1) := by decide +kernel
theorem dX4_ownedBowls_5 : decode cX4_ownedBowls 5 = .ok (.aload_n 0, 1) := by decide +kernel
theorem dX4_ownedBowls_6 : decode cX4_ownedBowls 6 = .ok (.getfield 36, 3) := by decide +kernel
theorem dX4_ownedBowls_9 : decode cX4_ownedBowls 9 = .ok (.if_icmp .ge 20, 3) := by decide +kernel
theorem dX4_ownedBowls_12 : decode cX4_ownedBowls 12 = .ok (.iload_n 1, 1) := by decide +kernel
theorem dX4_ownedBowls_13 : decode cX4_ownedBowls 13 = .ok (.aload_n 0, 1) := by decide +kernel
theorem dX4_ownedBowls_14 : decode cX4_ownedBowls 14 = .ok (.iload_n 2, 1) := by decide +kernel
theorem dX4_ownedBowls_15 : decode cX4_ownedBowls 15 = .ok (.invokevirtual 40, 3) := by decide +kernel
theorem dX4_ownedBowls_18 : decode cX4_ownedBowls 18 = .ok (.getfield 65, 3) := by decide +kernel
theorem dX4_ownedBowls_21 : decode cX4_ownedBowls 21 = .ok (.iadd, 1) := by decide +kernel
theorem dX4_ownedBowls_22 : decode cX4_ownedBowls 22 = .ok (.istore_n 1, 1) := by decide +kernel
theorem dX4_ownedBowls_23 : decode cX4_ownedBowls 23 = .ok (.iinc 2 1, 3) := by decide +kernel
theorem dX4_ownedBowls_26 : decode cX4_ownedBowls 26 = .ok (.goto (-22), 3) := by decide +kernel
theorem dX4_ownedBowls_29 : decode cX4_ownedBowls 29 = .ok (.iload_n 1, 1) := by decide +kernel
theorem dX4_ownedBowls_30 : decode cX4_ownedBowls 30 = .ok (.ireturn, 1) := by decide +kernel
theorem dX4_commonBowls_0 : decode cX4_commonBowls 0 = .ok (.sipush 5040, 3) := by decide +kernel
theorem dX4_commonBowls_3 : decode cX4_commonBowls 3 = .ok (.aload_n 0, 1) := by decide +kernel
theorem dX4_commonBowls_4 : decode cX4_commonBowls 4 = .ok (.invokevirtual 68, 3) := by decide +kernel
theorem dX4_commonBowls_7 : decode cX4_commonBowls 7 = .ok (.isub, 1) := by decide +kernel
theorem dX4_commonBowls_8 : decode cX4_commonBowls 8 = .ok (.ireturn, 1) := by decide +kernel
theorem dX4_sumOfCoins_0 : decode cX4_sumOfCoins 0 = .ok (.iconst 0, 1) := by decide +kernel
theorem dX4_sumOfCoins_1 : decode cX4_sumOfCoins 1 = .ok (.istore_n 1, 1) := by decide +kernel
theorem dX4_sumOfCoins_2 : decode cX4_sumOfCoins 2 = .ok (.iconst 0, 1) := by decide +kernel
theorem dX4_sumOfCoins_3 : decode cX4_sumOfCoins 3 = .ok (.istore_n 2, 1) := by decide +kernel
theorem dX4_sumOfCoins_4 : decode cX4_sumOfCoins 4 = .ok (.iload_n 2, 1) := by decide +kernel
theorem dX4_sumOfCoins_5 : decode cX4_sumOfCoins 5 = .ok (.aload_n 0, 1) := by decide +kernel
theorem dX4_sumOfCoins_6 : decode cX4_sumOfCoins 6 = .ok (.getfield 36, 3) := by decide +kernel
theorem dX4_sumOfCoins_9 : decode cX4_sumOfCoins 9 = .ok (.if_icmp .ge 20, 3) := by decide +kernel
theorem dX4_sumOfCoins_12 : decode cX4_sumOfCoins 12 = .ok (.iload_n 1, 1) := by decide +kernel
theorem dX4_sumOfCoins_13 : decode cX4_sumOfCoins 13 = .ok (.aload_n 0, 1) := by decide +kernel
theorem dX4_sumOfCoins_14 : decode cX4_sumOfCoins 14 = .ok (.iload_n 2, 1) := by decide +kernel
theorem dX4_sumOfCoins_15 : decode cX4_sumOfCoins 15 = .ok (.invokevirtual 40, 3) := by decide +kernel
theorem dX4_sumOfCoins_18 : decode cX4_sumOfCoins 18 = .ok (.getfield 72, 3) := by decide +kernel
theorem dX4_sumOfCoins_21 : decode cX4_sumOfCoins 21 = .ok (.iadd, 1) := by decide +kernel
theorem dX4_sumOfCoins_22 : decode cX4_sumOfCoins 22 = .ok (.istore_n 1, 1) := by decide +kernel
theorem dX4_sumOfCoins_23 : decode cX4_sumOfCoins 23 = .ok (.iinc 2 1, 3) := by decide +kernel
theorem dX4_sumOfCoins_26 : decode cX4_sumOfCoins 26 = .ok (.goto (-22), 3) := by decide +kernel
theorem dX4_sumOfCoins_29 : decode cX4_sumOfCoins 29 = .ok (.iload_n 1, 1) := by decide +kernel
theorem dX4_sumOfCoins_30 : decode cX4_sumOfCoins 30 = .ok (.ireturn, 1) := by decide +kernel
theorem dX4_shareCost_0 : decode cX4_shareCost 0 = .ok (.aload_n 0, 1) := by decide +kernel
theorem dX4_shareCost_1 : decode cX4_shareCost 1 = .ok (.invokevirtual 68, 3) := by decide +kernel
theorem dX4_shareCost_4 : decode cX4_shareCost 4 = .ok (.istore_n 2, 1) := by decide +kernel
theorem dX4_shareCost_5 : decode cX4_shareCost 5 = .ok (.iload_n 2, 1) := by decide +kernel
theorem dX4_shareCost_6 : decode cX4_shareCost 6 = .ok (.iconst 1, 1) := by decide +kernel
theorem dX4_shareCost_7 : decode cX4_shareCost 7 = .ok (.if_icmp .ge 4, 3) := by decide +kernel
theorem dX4_shareCost_10 : decode cX4_shareCost 10 = .ok (.return_, 1) := by decide +kernel
theorem dX4_shareCost_11 : decode cX4_shareCost 11 = .ok (.iload_n 1, 1) := by decide +kernel
theorem dX4_shareCost_12 : decode cX4_shareCost 12 = .ok (.istore_n 3, 1) := by decide +kernel
theorem dX4_shareCost_13 : decode cX4_shareCost 13 = .ok (.iconst 0, 1) := by decide +kernel
theorem dX4_shareCost_14 : decode cX4_shareCost 14 = .ok (.istore 4, 2) := by decide +kernel
theorem dX4_shareCost_16 : decode cX4_shareCost 16 = .ok (.iload 4, 2) := by decide +kernel
theorem dX4_shareCost_18 : decode cX4_shareCost 18 = .ok (.aload_n 0, 1) := by decide +kernel
theorem dX4_shareCost_19 : decode cX4_shareCost 19 = .ok (.getfield 36, 3) := by decide +kernel
theorem dX4_shareCost_22 : decode cX4_shareCost 22 = .ok (.if_icmp .ge 45, 3) := by decide +kernel
theorem dX4_shareCost_25 : decode cX4_shareCost 25 = .ok (.aload_n 0, 1) := by decide +kernel
theorem dX4_shareCost_26 : decode cX4_shareCost 26 = .ok (.iload 4, 2) := by decide +kernel
theorem dX4_shareCost_28 : decode cX4_shareCost 28 = .ok (.invokevirtual 40, 3) := by decide +kernel
theorem dX4_shareCost_31 : decode cX4_shareCost 31 = .ok (.astore 5, 2) := by decide +kernel
theorem dX4_shareCost_33 : decode cX4_shareCost 33 = .ok (.iload_n 1, 1) := by decide +kernel
theorem dX4_shareCost_34 : decode cX4_shareCost 34 = .ok (.aload 5, 2) := by decide +kernel
theorem dX4_shareCost_36 : decode cX4_shareCost 36 = .ok (.getfield 65, 3) := by decide +kernel
theorem dX4_shareCost_39 : decode cX4_shareCost 39 = .ok (.imul, 1) := by decide +kernel
theorem dX4_shareCost_40 : decode cX4_shareCost 40 = .ok (.iload_n 2, 1) := by decide +kernel
theorem dX4_shareCost_41 : decode cX4_shareCost 41 = .ok (.idiv, 1) := by decide +kernel
theorem dX4_shareCost_42 : decode cX4_shareCost 42 = .ok (.istore 6, 2) := by decide +kernel
theorem dX4_shareCost_44 : decode cX4_shareCost 44 = .ok (.aload 5, 2) := by decide +kernel
theorem dX4_shareCost_46 : decode cX4_shareCost 46 = .ok (.dup, 1) := by decide +kernel
theorem dX4_shareCost_47 : decode cX4_shareCost 47 = .ok (.getfield 72, 3) := by decide +kernel
theorem dX4_shareCost_50 : decode cX4_shareCost 50 = .ok (.iload 6, 2) := by decide +kernel
theorem dX4_shareCost_52 : decode cX4_shareCost 52 = .ok (.isub, 1) := by decide +kernel
theorem dX4_shareCost_53 : decode cX4_shareCost 53 = .ok (.putfield 72, 3) := by decide +kernel
theorem dX4_shareCost_56 : decode cX4_shareCost 56 = .ok (.iload_n 3, 1) := by decide +kernel
theorem dX4_shareCost_57 : decode cX4_shareCost 57 = .ok (.iload 6, 2) := by decide +kernel
theorem dX4_shareCost_59 : decode cX4_shareCost 59 = .ok (.isub, 1) := by decide +kernel
theorem dX4_shareCost_60 : decode cX4_shareCost 60 = .ok (.istore_n 3, 1) := by decide +kernel
theorem dX4_shareCost_61 : decode cX4_shareCost 61 = .ok (.iinc 4 1, 3) := by decide +kernel
theorem dX4_shareCost_64 : decode cX4_shareCost 64 = .ok (.goto (-48), 3) := by decide +kernel
theorem dX4_shareCost_67 : decode cX4_shareCost 67 = .ok (.aload_n 0, 1) := by decide +kernel
theorem dX4_shareCost_68 : decode cX4_shareCost 68 = .ok (.iconst 0, 1) := by decide +kernel
theorem dX4_shareCost_69 : decode cX4_shareCost 69 = .ok (.invokevirtual 40, 3) := by decide +kernel
theorem dX4_shareCost_72 : decode cX4_shareCost 72 = .ok (.dup, 1) := by decide +kernel
theorem dX4_shareCost_73 : decode cX4_shareCost 73 = .ok (.getfield 72, 3) := by decide +kernel
theorem dX4_shareCost_76 : decode cX4_shareCost 76 = .ok (.iload_n 3, 1) := by decide +kernel
theorem dX4_shareCost_77 : decode cX4_shareCost 77 = .ok (.isub, 1) := by decide +kernel
theorem dX4_shareCost_78 : decode cX4_shareCost 78 = .ok (.putfield 72, 3) := by decide +kernel
theorem dX4_shareCost_81 : decode cX4_shareCost 81 = .ok (.return_, 1) := by decide +kernel
theorem dX4_growPalms_0 : decode cX4_growPalms 0 = .ok (.iconst 0, 1) := by decide +kernel
theorem dX4_growPalms_1 : decode cX4_growPalms 1 = .ok (.istore_n 2, 1) := by decide +kernel
theorem dX4_growPalms_2 : decode cX4_growPalms 2 = .ok (.iload_n 2, 1) := by decide +kernel
theorem dX4_growPalms_3 : decode cX4_growPalms 3 = .ok (.aload_n 0, 1) := by decide +kernel
theorem dX4_growPalms_4 : decode cX4_growPalms 4 = .ok (.getfield 36, 3) := by decide +kernel
theorem dX4_growPalms_7 : decode cX4_growPalms 7 = .ok (.if_icmp .ge 18, 3) := by decide +kernel
theorem dX4_growPalms_10 : decode cX4_growPalms 10 = .ok (.aload_n 0, 1) := by decide +kernel
theorem dX4_growPalms_11 : decode cX4_growPalms 11 = .ok (.iload_n 2, 1) := by decide +kernel
theorem dX4_growPalms_12 : decode cX4_growPalms 12 = .ok (.invokevirtual 40, 3) := by decide +kernel
theorem dX4_growPalms_15 : decode cX4_growPalms 15 = .ok (.iload_n 1, 1) := by decide +kernel
theorem dX4_growPalms_16 : decode cX4_growPalms 16 = .ok (.invokevirtual 78, 3) := by decide +kernel
theorem dX4_growPalms_19 : decode cX4_growPalms 19 = .ok (.iinc 2 1, 3) := by decide +kernel
theorem dX4_growPalms_22 : decode cX4_growPalms 22 = .ok (.goto (-20), 3) := by decide +kernel
theorem dX4_growPalms_25 : decode cX4_growPalms 25 = .ok (.return_, 1) := by decide +kernel
theorem dX4_reap_0 : decode cX4_reap 0 = .ok (.iconst 0, 1) := by decide +kernel
theorem dX4_reap_1 : decode cX4_reap 1 = .ok (.istore_n 1, 1) := by decide +kernel
theorem dX4_reap_2 : decode cX4_reap 2 = .ok (.iconst 0, 1) := by decide +kernel
theorem dX4_reap_3 : decode cX4_reap 3 = .ok (.istore_n 2, 1) := by decide +kernel
theorem dX4_reap_4 : decode cX4_reap 4 = .ok (.iload_n 2, 1) := by decide +kernel
theorem dX4_reap_5 : decode cX4_reap 5 = .ok (.aload_n 0, 1) := by decide +kernel
theorem dX4_reap_6 : decode cX4_reap 6 = .ok (.getfield 36, 3) := by decide +kernel
theorem dX4_reap_9 : decode cX4_reap 9 = .ok (.if_icmp .ge 28, 3) := by decide +kernel
theorem dX4_reap_12 : decode cX4_reap 12 = .ok (.aload_n 0, 1) := by decide +kernel
theorem dX4_reap_13 : decode cX4_reap 13 = .ok (.iload_n 2, 1) := by decide +kernel
theorem dX4_reap_14 : decode cX4_reap 14 = .ok (.invokevirtual 40, 3) := by decide +kernel
theorem dX4_reap_17 : decode cX4_reap 17 = .ok (.invokevirtual 82, 3) := by decide +kernel
theorem dX4_reap_20 : decode cX4_reap 20 = .ok (.iload_n 1, 1) := by decide +kernel
theorem dX4_reap_21 : decode cX4_reap 21 = .ok (.aload_n 0, 1) := by decide +kernel
theorem dX4_reap_22 : decode cX4_reap 22 = .ok (.iload_n 2, 1) := by decide +kernel
theorem dX4_reap_23 : decode cX4_reap 23 = .ok (.invokevirtual 40, 3) := by decide +kernel
theorem dX4_reap_26 : decode cX4_reap 26 = .ok (.getfield 85, 3) := by decide +kernel
theorem dX4_reap_29 : decode cX4_reap 29 = .ok (.iadd, 1) := by decide +kernel
theorem dX4_reap_30 : decode cX4_reap 30 = .ok (.istore_n 1, 1) := by decide +kernel
theorem dX4_reap_31 : decode cX4_reap 31 = .ok (.iinc 2 1, 3) := by decide +kernel
theorem dX4_reap_34 : decode cX4_reap 34 = .ok (.goto (-30), 3) := by decide +kernel
theorem dX4_reap_37 : decode cX4_reap 37 = .ok (.iload_n 1, 1) := by decide +kernel
theorem dX4_reap_38 : decode cX4_reap 38 = .ok (.ireturn, 1) := by decide +kernel
theorem dX5_init_0 : decode cX5_init 0 = .ok (.aload_n 0, 1) := by decide +kernel
theorem dX5_init_1 : decode cX5_init 1 = .ok (.invokespecial 1, 3) := by decide +kernel
theorem dX5_init_4 : decode cX5_init 4 = .ok (.aload_n 0, 1) := by decide +kernel
theorem dX5_init_5 : decode cX5_init 5 = .ok (.new 7, 3) := by decide +kernel
theorem dX5_init_8 : decode cX5_init 8 = .ok (.dup, 1) := by decide +kernel
theorem dX5_init_9 : decode cX5_init 9 = .ok (.invokespecial 9, 3) := by decide +kernel
theorem dX5_init_12 : decode cX5_init 12 = .ok (.putfield 10, 3) := by decide +kernel
theorem dX5_init_15 : decode cX5_init 15 = .ok (.aload_n 0, 1) := by decide +kernel
theorem dX5_init_16 : decode cX5_init 16 = .ok (.new 7, 3) := by decide +kernel
theorem dX5_init_19 : decode cX5_init 19 = .ok (.dup, 1) := by decide +kernel
theorem dX5_init_20 : decode cX5_init 20 = .ok (.invokespecial 9, 3) := by decide +kernel
theorem dX5_init_23 : decode cX5_init 23 = .ok (.putfield 16, 3) := by decide +kernel
theorem dX5_init_26 : decode cX5_init 26 = .ok (.aload_n 0, 1) := by decide +kernel
theorem dX5_init_27 : decode cX5_init 27 = .ok (.new 7, 3) := by decide +kernel
theorem dX5_init_30 : decode cX5_init 30 = .ok (.dup, 1) := by decide +kernel
theorem dX5_init_31 : decode cX5_init 31 = .ok (.invokespecial 9, 3) := by decide +kernel
theorem dX5_init_34 : decode cX5_init 34 = .ok (.putfield 19, 3) := by decide +kernel
theorem dX5_init_37 : decode cX5_init 37 = .ok (.return_, 1) := by decide +kernel
theorem dX5_owner_0 : decode cX5_owner 0 = .ok (.iload_n 1, 1) := by decide +kernel
theorem dX5_owner_1 : decode cX5_owner 1 = .ok (.iconst 0, 1) := by decide +kernel
theorem dX5_owner_2 : decode cX5_owner 2 = .ok (.sipush 5040, 3) := by decide +kernel
theorem dX5_owner_5 : decode cX5_owner 5 = .ok (.invokestatic 22, 3) := by decide +kernel
theorem dX5_owner_8 : decode cX5_owner 8 = .ok (.ifCond .eq 40, 3) := by decide +kernel
theorem dX5_owner_11 : decode cX5_owner 11 = .ok (.iload_n 2, 1) := by decide +kernel
theorem dX5_owner_12 : decode cX5_owner 12 = .ok (.iconst 0, 1) := by decide +kernel
theorem dX5_owner_13 : decode cX5_owner 13 = .ok (.sipush 9999, 3) := by decide +kernel
theorem dX5_owner_16 : decode cX5_owner 16 = .ok (.invokestatic 22, 3) := by decide +kernel
theorem dX5_owner_19 : decode cX5_owner 19 = .ok (.ifCond .eq 29, 3) := by decide +kernel
theorem dX5_owner_22 : decode cX5_owner 22 = .ok (.iload_n 3, 1) := by decide +kernel
theorem dX5_owner_23 : decode cX5_owner 23 = .ok (.iconst 0, 1) := by decide +kernel
theorem dX5_owner_24 : decode cX5_owner 24 = .ok (.sipush 200, 3) := by decide +kernel
theorem dX5_owner_27 : decode cX5_owner 27 = .ok (.invokestatic 22, 3) := by decide +kernel
theorem dX5_owner_30 : decode cX5_owner 30 = .ok (.ifCond .eq 18, 3) := by decide +kernel
theorem dX5_owner_33 : decode cX5_owner 33 = .ok (.iload 4, 2) := by decide +kernel
theorem dX5_owner_35 : decode cX5_owner 35 = .ok (.iconst 0, 1) := by decide +kernel
theorem dX5_owner_36 : decode cX5_owner 36 = .ok (.bipush 20, 2) := by decide +kernel
theorem dX5_owner_38 : decode cX5_owner 38 = .ok (.invokestatic 22, 3) := by decide +kernel
theorem dX5_owner_41 : decode cX5_owner 41 = .ok (.ifCond .eq 7, 3) := by decide +kernel
theorem dX5_owner_44 : decode cX5_owner 44 = .ok (.iconst 1, 1) := by decide +kernel
theorem dX5_owner_45 : decode cX5_owner 45 = .ok (.goto 4, 3) := by decide +kernel
theorem dX5_owner_48 : decode cX5_owner 48 = .ok (.iconst 0, 1) := by decide +kernel
theorem dX5_owner_49 : decode cX5_owner 49 = .ok (.invokestatic 26, 3) := by decide +kernel
theorem dX5_owner_52 : decode cX5_owner 52 = .ok (.aload_n 0, 1) := by decide +kernel
theorem dX5_owner_53 : decode cX5_owner 53 = .ok (.getfield 10, 3) := by decide +kernel
theorem dX5_owner_56 : decode cX5_owner 56 = .ok (.getfield 30, 3) := by decide +kernel
theorem dX5_owner_59 : decode cX5_owner 59 = .ok (.iconst 1, 1) := by decide +kernel
theorem dX5_owner_60 : decode cX5_owner 60 = .ok (.invokevirtual 34, 3) := by decide +kernel
theorem dX5_owner_63 : decode cX5_owner 63 = .ok (.ifCond .eq 21, 3) := by decide +kernel
theorem dX5_owner_66 : decode cX5_owner 66 = .ok (.iload_n 1, 1) := by decide +kernel
theorem dX5_owner_67 : decode cX5_owner 67 = .ok (.aload_n 0, 1) := by decide +kernel
theorem dX5_owner_68 : decode cX5_owner 68 = .ok (.getfield 10, 3) := by decide +kernel
theorem dX5_owner_71 : decode cX5_owner 71 = .ok (.getfield 30, 3) := by decide +kernel
theorem dX5_owner_74 : decode cX5_owner 74 = .ok (.invokevirtual 40, 3) := by decide +kernel
theorem dX5_owner_77 : decode cX5_owner 77 = .ok (.if_icmp .gt 7, 3) := by decide +kernel
theorem dX5_owner_80 : decode cX5_owner 80 = .ok (.iconst 1, 1) := by decide +kernel
theorem dX5_owner_81 : decode cX5_owner 81 = .ok (.goto 4, 3) := by decide +kernel
theorem dX5_owner_84 : decode cX5_owner 84 = .ok (.iconst 0, 1) := by decide +kernel
theorem dX5_owner_85 : decode cX5_owner 85 = .ok (.invokestatic 44, 3) := by decide +kernel
theorem dX5_owner_88 : decode cX5_owner 88 = .ok (.aload_n 0, 1) := by decide +kernel
theorem dX5_owner_89 : decode cX5_owner 89 = .ok (.getfield 10, 3) := by decide +kernel
theorem dX5_owner_92 : decode cX5_owner 92 = .ok (.getfield 30, 3) := by decide +kernel
theorem dX5_owner_95 : decode cX5_owner 95 = .ok (.iload_n 1, 1) := by decide +kernel
theorem dX5_owner_96 : decode cX5_owner 96 = .ok (.iload_n 2, 1) := by decide +kernel
theorem dX5_owner_97 : decode cX5_owner 97 = .ok (.iload_n 3, 1) := by decide +kernel
theorem dX5_owner_98 : decode cX5_owner 98 = .ok (.iload 4, 2) := by decide +kernel
theorem dX5_owner_100 : decode cX5_owner 100 = .ok (.invokevirtual 47, 3) := by decide +kernel
theorem dX5_owner_103 : decode cX5_owner 103 = .ok (.ireturn, 1) := by decide +kernel
theorem dX5_sell_0 : decode cX5_sell 0 = .ok (.aload_n 0, 1) := by decide +kernel
theorem dX5_sell_1 : decode cX5_sell 1 = .ok (.iload_n 1, 1) := by decide +kernel
theorem dX5_sell_2 : decode cX5_sell 2 = .ok (.invokevirtual 51, 3) := by decide +kernel
theorem dX5_sell_5 : decode cX5_sell 5 = .ok (.aload_n 0, 1) := by decide +kernel
theorem dX5_sell_6 : decode cX5_sell 6 = .ok (.iload_n 2, 1) := by decide +kernel
theorem dX5_sell_7 : decode cX5_sell 7 = .ok (.invokevirtual 51, 3) := by decide +kernel
theorem dX5_sell_10 : decode cX5_sell 10 = .ok (.iload_n 1, 1) := by decide +kernel
theorem dX5_sell_11 : decode cX5_sell 11 = .ok (.iload_n 2, 1) := by decide +kernel
theorem dX5_sell_12 : decode cX5_sell 12 = .ok (.if_icmp .eq 30, 3) := by decide +kernel
theorem dX5_sell_15 : decode cX5_sell 15 = .ok (.iload_n 3, 1) := by decide +kernel
theorem dX5_sell_16 : decode cX5_sell 16 = .ok (.iconst 1, 1) := by decide +kernel
theorem dX5_sell_17 : decode cX5_sell 17 = .ok (.sipush 5040, 3) := by decide +kernel
theorem dX5_sell_20 : decode cX5_sell 20 = .ok (.invokestatic 22, 3) := by decide +kernel
theorem dX5_sell_23 : decode cX5_sell 23 = .ok (.ifCond .eq 19, 3) := by decide +kernel
theorem dX5_sell_26 : decode cX5_sell 26 = .ok (.iload 4, 2) := by decide +kernel
theorem dX5_sell_28 : decode cX5_sell 28 = .ok (.iconst 0, 1) := by decide +kernel
theorem dX5_sell_29 : decode cX5_sell 29 = .ok (.sipush 9999, 3) := by decide +kernel
theorem dX5_sell_32 : decode cX5_sell 32 = .ok (.invokestatic 22, 3) := by decide +kernel
theorem dX5_sell_35 : decode cX5_sell 35 = .ok (.ifCond .eq 7, 3) := by decide +kernel
theorem dX5_sell_38 : decode cX5_sell 38 = .ok (.iconst 1, 1) := by decide +kernel
theorem dX5_sell_39 : decode cX5_sell 39 = .ok (.goto 4, 3) := by decide +kernel
theorem dX5_sell_42 : decode cX5_sell 42 = .ok (.iconst 0, 1) := by decide +kernel
theorem dX5_sell_43 : decode cX5_sell 43 = .ok (.invokestatic 26, 3) := by decide +kernel
theorem dX5_sell_46 : decode cX5_sell 46 = .ok (.aload_n 0, 1) := by decide +kernel
theorem dX5_sell_47 : decode cX5_sell 47 = .ok (.getfield 10, 3) := by decide +kernel
theorem dX5_sell_50 : decode cX5_sell 50 = .ok (.getfield 30, 3) := by decide +kernel
theorem dX5_sell_53 : decode cX5_sell 53 = .ok (.iload_n 1, 1) := by decide +kernel
theorem dX5_sell_54 : decode cX5_sell 54 = .ok (.invokevirtual 55, 3) := by decide +kernel
theorem dX5_sell_57 : decode cX5_sell 57 = .ok (.astore 5, 2) := by decide +kernel
theorem dX5_sell_59 : decode cX5_sell 59 = .ok (.aload_n 0, 1) := by decide +kernel
theorem dX5_sell_60 : decode cX5_sell 60 = .ok (.getfield 10, 3) := by decide +kernel
theorem dX5_sell_63 : decode cX5_sell 63 = .ok (.getfield 30, 3) := by decide +kernel
theorem dX5_sell_66 : decode cX5_sell 66 = .ok (.iload_n 2, 1) := by decide +kernel
theorem dX5_sell_67 : decode cX5_sell 67 = .ok (.invokevirtual 55, 3) := by decide +kernel
theorem dX5_sell_70 : decode cX5_sell 70 = .ok (.astore 6, 2) := by decide +kernel
theorem dX5_sell_72 : decode cX5_sell 72 = .ok (.iload_n 3, 1) := by decide +kernel
theorem dX5_sell_73 : decode cX5_sell 73 = .ok (.aload_n 0, 1) := by decide +kernel
theorem dX5_sell_74 : decode cX5_sell 74 = .ok (.getfield 10, 3) := by decide +kernel
theorem dX5_sell_77 : decode cX5_sell 77 = .ok (.aload 5, 2) := by decide +kernel
theorem dX5_sell_79 : decode cX5_sell 79 = .ok (.invokevirtual 59, 3) := by decide +kernel
theorem dX5_sell_82 : decode cX5_sell 82 = .ok (.if_icmp .le 6, 3) := by decide +kernel
theorem dX5_sell_85 : decode cX5_sell 85 = .ok (.bipush (-2), 2) := by decide +kernel
theorem dX5_sell_87 : decode cX5_sell 87 = .ok (.ireturn, 1) := by decide +kernel
theorem dX5_sell_88 : decode cX5_sell 88 = .ok (.iload 4, 2) := by decide +kernel
theorem dX5_sell_90 : decode cX5_sell 90 = .ok (.aload 6, 2) := by decide +kernel
theorem dX5_sell_92 : decode cX5_sell 92 = .ok (.getfield 63, 3) := by decide +kernel
theorem dX5_sell_95 : decode cX5_sell 95 = .ok (.if_icmp .le 6, 3) := by decide +kernel
theorem dX5_sell_98 : decode cX5_sell 98 = .ok (.bipush (-3), 2) := by decide +kernel
theorem dX5_sell_100 : decode cX5_sell 100 = .ok (.ireturn, 1) := by decide +kernel
theorem dX5_sell_101 : decode cX5_sell 101 = .ok (.aload 6, 2) := by decide +kernel
theorem dX5_sell_103 : decode cX5_sell 103 = .ok (.aload 5, 2) := by decide +kernel
theorem dX5_sell_105 : decode cX5_sell 105 = .ok (.iload 4, 2) := by decide +kernel
theorem dX5_sell_107 : decode cX5_sell 107 = .ok (.invokevirtual 69, 3) := by decide +kernel
theorem dX5_sell_110 : decode cX5_sell 110 = .ok (.aload 5, 2) := by decide +kernel
theorem dX5_sell_112 : decode cX5_sell 112 = .ok (.dup, 1) := by decide +kernel
theorem dX5_sell_113 : decode cX5_sell 113 = .ok (.getfield 73, 3) := by decide +kernel
theorem dX5_sell_116 : decode cX5_sell 116 = .ok (.iload_n 3, 1) := by decide +kernel
theorem dX5_sell_117 : decode cX5_sell 117 = .ok (.isub, 1) := by decide +kernel
theorem dX5_sell_118 : decode cX5_sell 118 = .ok (.putfield 73, 3) := by decide +kernel
theorem dX5_sell_121 : decode cX5_sell 121 = .ok (.aload 6, 2) := by decide +kernel
theorem dX5_sell_123 : decode cX5_sell 123 = .ok (.dup, 1) := by decide +kernel
theorem dX5_sell_124 : decode cX5_sell 124 = .ok (.getfield 73, 3) := by decide +kernel
theorem dX5_sell_127 : decode cX5_sell 127 = .ok (.iload_n 3, 1) := by decide +kernel
theorem dX5_sell_128 : decode cX5_sell 128 = .ok (.iadd, 1) := by decide +kernel
theorem dX5_sell_129 : decode cX5_sell 129 = .ok (.putfield 73, 3) := by decide +kernel
theorem dX5_sell_132 : decode cX5_sell 132 = .ok (.aload 6, 2) := by decide +kernel
theorem dX5_sell_134 : decode cX5_sell 134 = .ok (.getfield 73, 3) := by decide +kernel
theorem dX5_sell_137 : decode cX5_sell 137 = .ok (.ireturn, 1) := by decide +kernel
theorem dX5_lend_0 : decode cX5_lend 0 = .ok (.aload_n 0, 1) := by decide +kernel
theorem dX5_lend_1 : decode cX5_lend 1 = .ok (.iload_n 1, 1) := by decide +kernel
theorem dX5_lend_2 : decode cX5_lend 2 = .ok (.invokevirtual 51, 3) := by decide +kernel
theorem dX5_lend_5 : decode cX5_lend 5 = .ok (.aload_n 0, 1) := by decide +kernel
theorem dX5_lend_6 : decode cX5_lend 6 = .ok (.iload_n 2, 1) := by decide +kernel
theorem dX5_lend_7 : decode cX5_lend 7 = .ok (.invokevirtual 51, 3) := by decide +kernel
theorem dX5_lend_10 : decode cX5_lend 10 = .ok (.iload_n 1, 1) := by decide +kernel
theorem dX5_lend_11 : decode cX5_lend 11 = .ok (.iload_n 2, 1) := by decide +kernel
theorem dX5_lend_12 : decode cX5_lend 12 = .ok (.if_icmp .eq 29, 3) := by decide +kernel
theorem dX5_lend_15 : decode cX5_lend 15 = .ok (.iload_n 3, 1) := by decide +kernel
theorem dX5_lend_16 : decode cX5_lend 16 = .ok (.iconst 1, 1) := by decide +kernel
theorem dX5_lend_17 : decode cX5_lend 17 = .ok (.sipush 5040, 3) := by decide +kernel
theorem dX5_lend_20 : decode cX5_lend 20 = .ok (.invokestatic 22, 3) := by decide +kernel
theorem dX5_lend_23 : decode cX5_lend 23 = .ok (.ifCond .eq 18, 3) := by decide +kernel
theorem dX5_lend_26 : decode cX5_lend 26 = .ok (.iload 4, 2) := by decide +kernel
theorem dX5_lend_28 : decode cX5_lend 28 = .ok (.iconst 1, 1) := by decide +kernel
theorem dX5_lend_29 : decode cX5_lend 29 = .ok (.bipush 20, 2) := by decide +kernel
theorem dX5_lend_31 : decode cX5_lend 31 = .ok (.invokestatic 22, 3) := by decide +kernel
theorem dX5_lend_34 : decode cX5_lend 34 = .ok (.ifCond .eq 7, 3) := by decide +kernel
theorem dX5_lend_37 : decode cX5_lend 37 = .ok (.iconst 1, 1) := by decide +kernel
theorem dX5_lend_38 : decode cX5_lend 38 = .ok (.goto 4, 3) := by decide +kernel
theorem dX5_lend_41 : decode cX5_lend 41 = .ok (.iconst 0, 1) := by decide +kernel
theorem dX5_lend_42 : decode cX5_lend 42 = .ok (.invokestatic 26, 3) := by decide +kernel
theorem dX5_lend_45 : decode cX5_lend 45 = .ok (.aload_n 0, 1) := by decide +kernel
theorem dX5_lend_46 : decode cX5_lend 46 = .ok (.getfield 10, 3) := by decide +kernel
theorem dX5_lend_49 : decode cX5_lend 49 = .ok (.getfield 76, 3) := by decide +kernel
theorem dX5_lend_52 : decode cX5_lend 52 = .ok (.invokevirtual 80, 3) := by decide +kernel
theorem dX5_lend_55 : decode cX5_lend 55 = .ok (.ifCond .ne 7, 3) := by decide +kernel
theorem dX5_lend_58 : decode cX5_lend 58 = .ok (.iconst 1, 1) := by decide +kernel
theorem dX5_lend_59 : decode cX5_lend 59 = .ok (.goto 4, 3) := by decide +kernel
theorem dX5_lend_62 : decode cX5_lend 62 = .ok (.iconst 0, 1) := by decide +kernel
theorem dX5_lend_63 : decode cX5_lend 63 = .ok (.invokestatic 44, 3) := by decide +kernel
theorem dX5_lend_66 : decode cX5_lend 66 = .ok (.iload_n 3, 1) := by decide +kernel
theorem dX5_lend_67 : decode cX5_lend 67 = .ok (.aload_n 0, 1) := by decide +kernel
theorem dX5_lend_68 : decode cX5_lend 68 = .ok (.getfield 10, 3) := by decide +kernel
theorem dX5_lend_71 : decode cX5_lend 71 = .ok (.aload_n 0, 1) := by decide +kernel
theorem dX5_lend_72 : decode cX5_lend 72 = .ok (.getfield 10, 3) := by decide +kernel
theorem dX5_lend_75 : decode cX5_lend 75 = .ok (.getfield 30, 3) := by decide +kernel
theorem dX5_lend_78 : decode cX5_lend 78 = .ok (.iload_n 1, 1) := by decide +kernel
theorem dX5_lend_79 : decode cX5_lend 79 = .ok (.invokevirtual 55, 3) := by decide +kernel
theorem dX5_lend_82 : decode cX5_lend 82 = .ok (.invokevirtual 59, 3) := by decide +kernel
theorem dX5_lend_85 : decode cX5_lend 85 = .ok (.if_icmp .le 6, 3) := by decide +kernel
theorem dX5_lend_88 : decode cX5_lend 88 = .ok (.bipush (-2), 2) := by decide +kernel
theorem dX5_lend_90 : decode cX5_lend 90 = .ok (.ireturn, 1) := by decide +kernel
theorem dX5_lend_91 : decode cX5_lend 91 = .ok (.aload_n 0, 1) := by decide +kernel
theorem dX5_lend_92 : decode cX5_lend 92 = .ok (.getfield 10, 3) := by decide +kernel
theorem dX5_lend_95 : decode cX5_lend 95 = .ok (.getfield 76, 3) := by decide +kernel
theorem dX5_lend_98 : decode cX5_lend 98 = .ok (.iload_n 1, 1) := by decide +kernel
theorem dX5_lend_99 : decode cX5_lend 99 = .ok (.iload_n 2, 1) := by decide +kernel
theorem dX5_lend_100 : decode cX5_lend 100 = .ok (.iload_n 3, 1) := by decide +kernel
theorem dX5_lend_101 : decode cX5_lend 101 = .ok (.iload 4, 2) := by decide +kernel
theorem dX5_lend_103 : decode cX5_lend 103 = .ok (.invokevirtual 86, 3) := by decide +kernel
theorem dX5_lend_106 : decode cX5_lend 106 = .ok (.aload_n 0, 1) := by decide +kernel
theorem dX5_lend_107 : decode cX5_lend 107 = .ok (.getfield 10, 3) := by decide +kernel
theorem dX5_lend_110 : decode cX5_lend 110 = .ok (.getfield 76, 3) := by decide +kernel
theorem dX5_lend_113 : decode cX5_lend 113 = .ok (.invokevirtual 90, 3) := by decide +kernel
theorem dX5_lend_116 : decode cX5_lend 116 = .ok (.ireturn, 1) := by decide +kernel
theorem dX5_dig_0 : decode cX5_dig 0 = .ok (.iload_n 1, 1) := by decide +kernel
theorem dX5_dig_1 : decode cX5_dig 1 = .ok (.iconst 1, 1) := by decide +kernel
theorem dX5_dig_2 : decode cX5_dig 2 = .ok (.bipush 80, 2) := by decide +kernel
theorem dX5_dig_4 : decode cX5_dig 4 = .ok (.invokestatic 22, 3) := by decide +kernel
theorem dX5_dig_7 : decode cX5_dig 7 = .ok (.invokestatic 26, 3) := by decide +kernel
theorem dX5_dig_10 : decode cX5_dig 10 = .ok (.aload_n 0, 1) := by decide +kernel
theorem dX5_dig_11 : decode cX5_dig 11 = .ok (.getfield 10, 3) := by decide +kernel
theorem dX5_dig_14 : decode cX5_dig 14 = .ok (.getfield 97, 3) := by decide +kernel
theorem dX5_dig_17 : decode cX5_dig 17 = .ok (.getfield 101, 3) := by decide +kernel
theorem dX5_dig_20 : decode cX5_dig 20 = .ok (.iload_n 1, 1) := by decide +kernel
theorem dX5_dig_21 : decode cX5_dig 21 = .ok (.iadd, 1) := by decide +kernel
theorem dX5_dig_22 : decode cX5_dig 22 = .ok (.bipush 90, 2) := by decide +kernel
theorem dX5_dig_24 : decode cX5_dig 24 = .ok (.if_icmp .gt 20, 3) := by decide +kernel
theorem dX5_dig_27 : decode cX5_dig 27 = .ok (.aload_n 0, 1) := by decide +kernel
theorem dX5_dig_28 : decode cX5_dig 28 = .ok (.getfield 10, 3) := by decide +kernel
theorem dX5_dig_31 : decode cX5_dig 31 = .ok (.getfield 30, 3) := by decide +kernel
theorem dX5_dig_34 : decode cX5_dig 34 = .ok (.invokevirtual 106, 3) := by decide +kernel
theorem dX5_dig_37 : decode cX5_dig 37 = .ok (.ifCond .le 7, 3) := by decide +kernel
theorem dX5_dig_40 : decode cX5_dig 40 = .ok (.iconst 1, 1) := by decide +kernel
theorem dX5_dig_41 : decode cX5_dig 41 = .ok (.goto 4, 3) := by decide +kernel
theorem dX5_dig_44 : decode cX5_dig 44 = .ok (.iconst 0, 1) := by decide +kernel
theorem dX5_dig_45 : decode cX5_dig 45 = .ok (.invokestatic 44, 3) := by decide +kernel
theorem dX5_dig_48 : decode cX5_dig 48 = .ok (.iconst 5, 1) := by decide +kernel
theorem dX5_dig_49 : decode cX5_dig 49 = .ok (.aload_n 0, 1) := by decide +kernel
theorem dX5_dig_50 : decode cX5_dig 50 = .ok (.getfield 10, 3) := by decide +kernel
theorem dX5_dig_53 : decode cX5_dig 53 = .ok (.getfield 97, 3) := by decide +kernel
theorem dX5_dig_56 : decode cX5_dig 56 = .ok (.getfield 101, 3) := by decide +kernel
theorem dX5_dig_59 : decode cX5_dig 59 = .ok (.bipush 10, 2) := by decide +kernel
theorem dX5_dig_61 : decode cX5_dig 61 = .ok (.idiv, 1) := by decide +kernel
theorem dX5_dig_62 : decode cX5_dig 62 = .ok (.iadd, 1) := by decide +kernel
theorem dX5_dig_63 : decode cX5_dig 63 = .ok (.iload_n 1, 1) := by decide +kernel
theorem dX5_dig_64 : decode cX5_dig 64 = .ok (.imul, 1) := by decide +kernel
theorem dX5_dig_65 : decode cX5_dig 65 = .ok (.istore_n 2, 1) := by decide +kernel
theorem dX5_dig_66 : decode cX5_dig 66 = .ok (.aload_n 0, 1) := by decide +kernel
theorem dX5_dig_67 : decode cX5_dig 67 = .ok (.getfield 10, 3) := by decide +kernel
theorem dX5_dig_70 : decode cX5_dig 70 = .ok (.getfield 30, 3) := by decide +kernel
theorem dX5_dig_73 : decode cX5_dig 73 = .ok (.iload_n 2, 1) := by decide +kernel
theorem dX5_dig_74 : decode cX5_dig 74 = .ok (.invokevirtual 109, 3) := by decide +kernel
theorem dX5_dig_77 : decode cX5_dig 77 = .ok (.aload_n 0, 1) := by decide +kernel
theorem dX5_dig_78 : decode cX5_dig 78 = .ok (.getfield 10, 3) := by decide +kernel
theorem dX5_dig_81 : decode cX5_dig 81 = .ok (.getfield 97, 3) := by decide +kernel
theorem dX5_dig_84 : decode cX5_dig 84 = .ok (.dup, 1) := by decide +kernel
theorem dX5_dig_85 : decode cX5_dig 85 = .ok (.getfield 101, 3) := by decide +kernel
theorem dX5_dig_88 : decode cX5_dig 88 = .ok (.iload_n 1, 1) := by decide +kernel
theorem dX5_dig_89 : decode cX5_dig 89 = .ok (.iadd, 1) := by decide +kernel
theorem dX5_dig_90 : decode cX5_dig 90 = .ok (.putfield 101, 3) := by decide +kernel
theorem dX5_dig_93 : decode cX5_dig 93 = .ok (.iload_n 2, 1) := by decide +kernel
theorem dX5_dig_94 : decode cX5_dig 94 = .ok (.ireturn, 1) := by decide +kernel
theorem dX5_pump_0 : decode cX5_pump 0 = .ok (.iload_n 1, 1) := by decide +kernel
theorem dX5_pump_1 : decode cX5_pump 1 = .ok (.iconst 0, 1) := by decide +kernel
theorem dX5_pump_2 : decode cX5_pump 2 = .ok (.bipush 20, 2) := by decide +kernel
theorem dX5_pump_4 : decode cX5_pump 4 = .ok (.invokestatic 22, 3) := by decide +kernel
theorem dX5_pump_7 : decode cX5_pump 7 = .ok (.invokestatic 26, 3) := by decide +kernel
theorem dX5_pump_10 : decode cX5_pump 10 = .ok (.aload_n 0, 1) := by decide +kernel
theorem dX5_pump_11 : decode cX5_pump 11 = .ok (.getfield 10, 3) := by decide +kernel
theorem dX5_pump_14 : decode cX5_pump 14 = .ok (.getfield 97, 3) := by decide +kernel
theorem dX5_pump_17 : decode cX5_pump 17 = .ok (.getfield 118, 3) := by decide +kernel
theorem dX5_pump_20 : decode cX5_pump 20 = .ok (.istore_n 2, 1) := by decide +kernel
theorem dX5_pump_21 : decode cX5_pump 21 = .ok (.aload_n 0, 1) := by decide +kernel
theorem dX5_pump_22 : decode cX5_pump 22 = .ok (.getfield 10, 3) := by decide +kernel
theorem dX5_pump_25 : decode cX5_pump 25 = .ok (.getfield 97, 3) := by decide +kernel
theorem dX5_pump_28 : decode cX5_pump 28 = .ok (.iload_n 1, 1) := by decide +kernel
theorem dX5_pump_29 : decode cX5_pump 29 = .ok (.putfield 118, 3) := by decide +kernel
theorem dX5_pump_32 : decode cX5_pump 32 = .ok (.iload_n 2, 1) := by decide +kernel
theorem dX5_pump_33 : decode cX5_pump 33 = .ok (.ireturn, 1) := by decide +kernel
theorem dX5_pollinate_0 : decode cX5_pollinate 0 = .ok (.aload_n 0, 1) := by decide +kernel
theorem dX5_pollinate_1 : decode cX5_pollinate 1 = .ok (.iload_n 1, 1) := by decide +kernel
theorem dX5_pollinate_2 : decode cX5_pollinate 2 = .ok (.invokevirtual 51, 3) := by decide +kernel
theorem dX5_pollinate_5 : decode cX5_pollinate 5 = .ok (.iload_n 2, 1) := by decide +kernel
theorem dX5_pollinate_6 : decode cX5_pollinate 6 = .ok (.iconst 1, 1) := by decide +kernel
theorem dX5_pollinate_7 : decode cX5_pollinate 7 = .ok (.sipush 200, 3) := by decide +kernel
theorem dX5_pollinate_10 : decode cX5_pollinate 10 = .ok (.invokestatic 22, 3) := by decide +kernel
theorem dX5_pollinate_13 : decode cX5_pollinate 13 = .ok (.invokestatic 26, 3) := by decide +kernel
theorem dX5_pollinate_16 : decode cX5_pollinate 16 = .ok (.aload_n 0, 1) := by decide +kernel
theorem dX5_pollinate_17 : decode cX5_pollinate 17 = .ok (.getfield 10, 3) := by decide +kernel
theorem dX5_pollinate_20 : decode cX5_pollinate 20 = .ok (.getfield 30, 3) := by decide +kernel
theorem dX5_pollinate_23 : decode cX5_pollinate 23 = .ok (.iload_n 1, 1) := by decide +kernel
theorem dX5_pollinate_24 : decode cX5_pollinate 24 = .ok (.invokevirtual 55, 3) := by decide +kernel
theorem dX5_pollinate_27 : decode cX5_pollinate 27 = .ok (.astore_n 3, 1) := by decide +kernel
theorem dX5_pollinate_28 : decode cX5_pollinate 28 = .ok (.aload_n 3, 1) := by decide +kernel
theorem dX5_pollinate_29 : decode cX5_pollinate 29 = .ok (.getfield 121, 3) := by decide +kernel
theorem dX5_pollinate_32 : decode cX5_pollinate 32 = .ok (.iload_n 2, 1) := by decide +kernel
theorem dX5_pollinate_33 : decode cX5_pollinate 33 = .ok (.iadd, 1) := by decide +kernel
theorem dX5_pollinate_34 : decode cX5_pollinate 34 = .ok (.istore 4, 2) := by decide +kernel
theorem dX5_pollinate_36 : decode cX5_pollinate 36 = .ok (.aload_n 0, 1) := by decide +kernel
theorem dX5_pollinate_37 : decode cX5_pollinate 37 = .ok (.getfield 10, 3) := by decide +kernel
theorem dX5_pollinate_40 : decode cX5_pollinate 40 = .ok (.invokevirtual 124, 3) := by decide +kernel
theorem dX5_pollinate_43 : decode cX5_pollinate 43 = .ok (.bipush 13, 2) := by decide +kernel
theorem dX5_pollinate_45 : decode cX5_pollinate 45 = .ok (.if_icmp .le 6, 3) := by decide +kernel
theorem dX5_pollinate_48 : decode cX5_pollinate 48 = .ok (.bipush (-2), 2) := by decide +kernel
theorem dX5_pollinate_50 : decode cX5_pollinate 50 = .ok (.ireturn, 1) := by decide +kernel
theorem dX5_pollinate_51 : decode cX5_pollinate 51 = .ok (.iload 4, 2) := by decide +kernel
theorem dX5_pollinate_53 : decode cX5_pollinate 53 = .ok (.aload_n 3, 1) := by decide +kernel
theorem dX5_pollinate_54 : decode cX5_pollinate 54 = .ok (.getfield 127, 3) := by decide +kernel
theorem dX5_pollinate_57 : decode cX5_pollinate 57 = .ok (.if_icmp .le 6, 3) := by decide +kernel
theorem dX5_pollinate_60 : decode cX5_pollinate 60 = .ok (.bipush (-3), 2) := by decide +kernel
theorem dX5_pollinate_62 : decode cX5_pollinate 62 = .ok (.ireturn, 1) := by decide +kernel
theorem dX5_pollinate_63 : decode cX5_pollinate 63 = .ok (.iload 4, 2) := by decide +kernel
theorem dX5_pollinate_65 : decode cX5_pollinate 65 = .ok (.aload_n 3, 1) := by decide +kernel
theorem dX5_pollinate_66 : decode cX5_pollinate 66 = .ok (.invokevirtual 130, 3) := by decide +kernel
theorem dX5_pollinate_69 : decode cX5_pollinate 69 = .ok (.if_icmp .le 6, 3) := by decide +kernel
theorem dX5_pollinate_72 : decode cX5_pollinate 72 = .ok (.bipush (-4), 2) := by decide +kernel
theorem dX5_pollinate_74 : decode cX5_pollinate 74 = .ok (.ireturn, 1) := by decide +kernel
theorem dX5_pollinate_75 : decode cX5_pollinate 75 = .ok (.aload_n 3, 1) := by decide +kernel
theorem dX5_pollinate_76 : decode cX5_pollinate 76 = .ok (.iload 4, 2) := by decide +kernel
theorem dX5_pollinate_78 : decode cX5_pollinate 78 = .ok (.putfield 121, 3) := by decide +kernel
theorem dX5_pollinate_81 : decode cX5_pollinate 81 = .ok (.iload 4, 2) := by decide +kernel
theorem dX5_pollinate_83 : decode cX5_pollinate 83 = .ok (.ireturn, 1) := by decide +kernel
theorem dX5_pass_0 : decode cX5_pass 0 = .ok (.iload_n 1, 1) := by decide +kernel
theorem dX5_pass_1 : decode cX5_pass 1 = .ok (.iconst 0, 1) := by decide +kernel
theorem dX5_pass_2 : decode cX5_pass 2 = .ok (.bipush 99, 2) := by decide +kernel
theorem dX5_pass_4 : decode cX5_pass 4 = .ok (.invokestatic 22, 3) := by decide +kernel
theorem dX5_pass_7 : decode cX5_pass 7 = .ok (.ifCond .eq 17, 3) := by decide +kernel
theorem dX5_pass_10 : decode cX5_pass 10 = .ok (.iload_n 2, 1) := by decide +kernel
theorem dX5_pass_11 : decode cX5_pass 11 = .ok (.iconst 1, 1) := by decide +kernel
theorem dX5_pass_12 : decode cX5_pass 12 = .ok (.bipush 70, 2) := by decide +kernel
theorem dX5_pass_14 : decode cX5_pass 14 = .ok (.invokestatic 22, 3) := by decide +kernel
theorem dX5_pass_17 : decode cX5_pass 17 = .ok (.ifCond .eq 7, 3) := by decide +kernel
theorem dX5_pass_20 : decode cX5_pass 20 = .ok (.iconst 1, 1) := by decide +kernel
theorem dX5_pass_21 : decode cX5_pass 21 = .ok (.goto 4, 3) := by decide +kernel
theorem dX5_pass_24 : decode cX5_pass 24 = .ok (.iconst 0, 1) := by decide +kernel
theorem dX5_pass_25 : decode cX5_pass 25 = .ok (.invokestatic 26, 3) := by decide +kernel
theorem dX5_pass_28 : decode cX5_pass 28 = .ok (.aload_n 0, 1) := by decide +kernel
theorem dX5_pass_29 : decode cX5_pass 29 = .ok (.getfield 10, 3) := by decide +kernel
theorem dX5_pass_32 : decode cX5_pass 32 = .ok (.getfield 139, 3) := by decide +kernel
theorem dX5_pass_35 : decode cX5_pass 35 = .ok (.iload_n 2, 1) := by decide +kernel
theorem dX5_pass_36 : decode cX5_pass 36 = .ok (.iadd, 1) := by decide +kernel
theorem dX5_pass_37 : decode cX5_pass 37 = .ok (.sipush 2000, 3) := by decide +kernel
theorem dX5_pass_40 : decode cX5_pass 40 = .ok (.if_icmp .gt 7, 3) := by decide +kernel
theorem dX5_pass_43 : decode cX5_pass 43 = .ok (.iconst 1, 1) := by decide +kernel
theorem dX5_pass_44 : decode cX5_pass 44 = .ok (.goto 4, 3) := by decide +kernel
theorem dX5_pass_47 : decode cX5_pass 47 = .ok (.iconst 0, 1) := by decide +kernel
theorem dX5_pass_48 : decode cX5_pass 48 = .ok (.invokestatic 44, 3) := by decide +kernel
theorem dX5_pass_51 : decode cX5_pass 51 = .ok (.aload_n 0, 1) := by decide +kernel
theorem dX5_pass_52 : decode cX5_pass 52 = .ok (.getfield 10, 3) := by decide +kernel
theorem dX5_pass_55 : decode cX5_pass 55 = .ok (.iload_n 1, 1) := by decide +kernel
theorem dX5_pass_56 : decode cX5_pass 56 = .ok (.iload_n 2, 1) := by decide +kernel
theorem dX5_pass_57 : decode cX5_pass 57 = .ok (.invokevirtual 142, 3) := by decide +kernel
theorem dX5_pass_60 : decode cX5_pass 60 = .ok (.ireturn, 1) := by decide +kernel
theorem dX5_of_0 : decode cX5_of 0 = .ok (.aload_n 0, 1) := by decide +kernel
theorem dX5_of_1 : decode cX5_of 1 = .ok (.iload_n 1, 1) := by decide +kernel
theorem dX5_of_2 : decode cX5_of 2 = .ok (.invokevirtual 51, 3) := by decide +kernel
theorem dX5_of_5 : decode cX5_of 5 = .ok (.iload_n 2, 1) := by decide +kernel
theorem dX5_of_6 : decode cX5_of 6 = .ok (.iconst 0, 1) := by decide +kernel
theorem dX5_of_7 : decode cX5_of 7 = .ok (.bipush 13, 2) := by decide +kernel
theorem dX5_of_9 : decode cX5_of 9 = .ok (.invokestatic 22, 3) := by decide +kernel
theorem dX5_of_12 : decode cX5_of 12 = .ok (.invokestatic 26, 3) := by decide +kernel
theorem dX5_of_15 : decode cX5_of 15 = .ok (.aload_n 0, 1) := by decide +kernel
theorem dX5_of_16 : decode cX5_of 16 = .ok (.getfield 10, 3) := by decide +kernel
theorem dX5_of_19 : decode cX5_of 19 = .ok (.aload_n 0, 1) := by decide +kernel
theorem dX5_of_20 : decode cX5_of 20 = .ok (.getfield 10, 3) := by decide +kernel
theorem dX5_of_23 : decode cX5_of 23 = .ok (.getfield 30, 3) := by decide +kernel
theorem dX5_of_26 : decode cX5_of 26 = .ok (.iload_n 1, 1) := by decide +kernel
theorem dX5_of_27 : decode cX5_of 27 = .ok (.invokevirtual 55, 3) := by decide +kernel
theorem dX5_of_30 : decode cX5_of 30 = .ok (.iload_n 2, 1) := by decide +kernel
theorem dX5_of_31 : decode cX5_of 31 = .ok (.invokevirtual 146, 3) := by decide +kernel
theorem dX5_of_34 : decode cX5_of 34 = .ok (.ireturn, 1) := by decide +kernel
theorem dX5_ofBowl_0 : decode cX5_ofBowl 0 = .ok (.iload_n 1, 1) := by decide +kernel
theorem dX5_ofBowl_1 : decode cX5_ofBowl 1 = .ok (.iconst 0, 1) := by decide +kernel
theorem dX5_ofBowl_2 : decode cX5_ofBowl 2 = .ok (.sipush 5039, 3) := by decide +kernel
theorem dX5_ofBowl_5 : decode cX5_ofBowl 5 = .ok (.invokestatic 22, 3) := by decide +kernel
theorem dX5_ofBowl_8 : decode cX5_ofBowl 8 = .ok (.invokestatic 150, 3) := by decide +kernel
theorem dX5_ofBowl_11 : decode cX5_ofBowl 11 = .ok (.iload_n 2, 1) := by decide +kernel
theorem dX5_ofBowl_12 : decode cX5_ofBowl 12 = .ok (.iconst 0, 1) := by decide +kernel
theorem dX5_ofBowl_13 : decode cX5_ofBowl 13 = .ok (.iconst 1, 1) := by decide +kernel
theorem dX5_ofBowl_14 : decode cX5_ofBowl 14 = .ok (.invokestatic 22, 3) := by decide +kernel
theorem dX5_ofBowl_17 : decode cX5_ofBowl 17 = .ok (.invokestatic 26, 3) := by decide +kernel
theorem dX5_ofBowl_20 : decode cX5_ofBowl 20 = .ok (.iload_n 2, 1) := by decide +kernel
theorem dX5_ofBowl_21 : decode cX5_ofBowl 21 = .ok (.ifCond .ne 17, 3) := by decide +kernel
theorem dX5_ofBowl_24 : decode cX5_ofBowl 24 = .ok (.aload_n 0, 1) := by decide +kernel
theorem dX5_ofBowl_25 : decode cX5_ofBowl 25 = .ok (.getfield 10, 3) := by decide +kernel
theorem dX5_ofBowl_28 : decode cX5_ofBowl 28 = .ok (.getfield 30, 3) := by decide +kernel
theorem dX5_ofBowl_31 : decode cX5_ofBowl 31 = .ok (.iload_n 1, 1) := by decide +kernel
theorem dX5_ofBowl_32 : decode cX5_ofBowl 32 = .ok (.invokevirtual 153, 3) := by decide +kernel
theorem dX5_ofBowl_35 : decode cX5_ofBowl 35 = .ok (.goto 11, 3) := by decide +kernel
theorem dX5_ofBowl_38 : decode cX5_ofBowl 38 = .ok (.aload_n 0, 1) := by decide +kernel
theorem dX5_ofBowl_39 : decode cX5_ofBowl 39 = .ok (.getfield 10, 3) := by decide +kernel
theorem dX5_ofBowl_42 : decode cX5_ofBowl 42 = .ok (.iload_n 1, 1) := by decide +kernel
theorem dX5_ofBowl_43 : decode cX5_ofBowl 43 = .ok (.invokevirtual 157, 3) := by decide +kernel
theorem dX5_ofBowl_46 : decode cX5_ofBowl 46 = .ok (.ireturn, 1) := by decide +kernel
theorem dX5_ofLoan_0 : decode cX5_ofLoan 0 = .ok (.iload_n 1, 1) := by decide +kernel
theorem dX5_ofLoan_1 : decode cX5_ofLoan 1 = .ok (.iconst 0, 1) := by decide +kernel
theorem dX5_ofLoan_2 : decode cX5_ofLoan 2 = .ok (.aload_n 0, 1) := by decide +kernel
theorem dX5_ofLoan_3 : decode cX5_ofLoan 3 = .ok (.getfield 10, 3) := by decide +kernel
theorem dX5_ofLoan_6 : decode cX5_ofLoan 6 = .ok (.getfield 76, 3) := by decide +kernel
theorem dX5_ofLoan_9 : decode cX5_ofLoan 9 = .ok (.invokevirtual 90, 3) := by decide +kernel
theorem dX5_ofLoan_12 : decode cX5_ofLoan 12 = .ok (.iconst 1, 1) := by decide +kernel
theorem dX5_ofLoan_13 : decode cX5_ofLoan 13 = .ok (.isub, 1) := by decide +kernel
theorem dX5_ofLoan_14 : decode cX5_ofLoan 14 = .ok (.invokestatic 22, 3) := by decide +kernel
theorem dX5_ofLoan_17 : decode cX5_ofLoan 17 = .ok (.invokestatic 150, 3) := by decide +kernel
theorem dX5_ofLoan_20 : decode cX5_ofLoan 20 = .ok (.iload_n 2, 1) := by decide +kernel
theorem dX5_ofLoan_21 : decode cX5_ofLoan 21 = .ok (.iconst 0, 1) := by decide +kernel
theorem dX5_ofLoan_22 : decode cX5_ofLoan 22 = .ok (.iconst 3, 1) := by decide +kernel
theorem dX5_ofLoan_23 : decode cX5_ofLoan 23 = .ok (.invokestatic 22, 3) := by decide +kernel
theorem dX5_ofLoan_26 : decode cX5_ofLoan 26 = .ok (.invokestatic 26, 3) := by decide +kernel
theorem dX5_ofLoan_29 : decode cX5_ofLoan 29 = .ok (.aload_n 0, 1) := by decide +kernel
theorem dX5_ofLoan_30 : decode cX5_ofLoan 30 = .ok (.getfield 10, 3) := by decide +kernel
theorem dX5_ofLoan_33 : decode cX5_ofLoan 33 = .ok (.getfield 76, 3) := by decide +kernel
theorem dX5_ofLoan_36 : decode cX5_ofLoan 36 = .ok (.iload_n 1, 1) := by decide +kernel
theorem dX5_ofLoan_37 : decode cX5_ofLoan 37 = .ok (.iload_n 2, 1) := by decide +kernel
theorem dX5_ofLoan_38 : decode cX5_ofLoan 38 = .ok (.invokevirtual 160, 3) := by decide +kernel
theorem dX5_ofLoan_41 : decode cX5_ofLoan 41 = .ok (.ireturn, 1) := by decide +kernel
theorem dX5_ofSale_0 : decode cX5_ofSale 0 = .ok (.iload_n 1, 1) := by decide +kernel
theorem dX5_ofSale_1 : decode cX5_ofSale 1 = .ok (.iconst 0, 1) := by decide +kernel
theorem dX5_ofSale_2 : decode cX5_ofSale 2 = .ok (.aload_n 0, 1) := by decide +kernel
theorem dX5_ofSale_3 : decode cX5_ofSale 3 = .ok (.getfield 10, 3) := by decide +kernel
theorem dX5_ofSale_6 : decode cX5_ofSale 6 = .ok (.getfield 136, 3) := by decide +kernel
theorem dX5_ofSale_9 : decode cX5_ofSale 9 = .ok (.invokevirtual 90, 3) := by decide +kernel
theorem dX5_ofSale_12 : decode cX5_ofSale 12 = .ok (.iconst 1, 1) := by decide +kernel
theorem dX5_ofSale_13 : decode cX5_ofSale 13 = .ok (.isub, 1) := by decide +kernel
theorem dX5_ofSale_14 : decode cX5_ofSale 14 = .ok (.invokestatic 22, 3) := by decide +kernel
theorem dX5_ofSale_17 : decode cX5_ofSale 17 = .ok (.invokestatic 150, 3) := by decide +kernel
theorem dX5_ofSale_20 : decode cX5_ofSale 20 = .ok (.iload_n 2, 1) := by decide +kernel
theorem dX5_ofSale_21 : decode cX5_ofSale 21 = .ok (.iconst 0, 1) := by decide +kernel
theorem dX5_ofSale_22 : decode cX5_ofSale 22 = .ok (.iconst 2, 1) := by decide +kernel
theorem dX5_ofSale_23 : decode cX5_ofSale 23 = .ok (.invokestatic 22, 3) := by decide +kernel
theorem dX5_ofSale_26 : decode cX5_ofSale 26 = .ok (.invokestatic 26, 3) := by decide +kernel
theorem dX5_ofSale_29 : decode cX5_ofSale 29 = .ok (.aload_n 0, 1) := by decide +kernel
theorem dX5_ofSale_30 : decode cX5_ofSale 30 = .ok (.getfield 10, 3) := by decide +kernel
theorem dX5_ofSale_33 : decode cX5_ofSale 33 = .ok (.getfield 136, 3) := by decide +kernel
theorem dX5_ofSale_36 : decode cX5_ofSale 36 = .ok (.iload_n 1, 1) := by decide +kernel
theorem dX5_ofSale_37 : decode cX5_ofSale 37 = .ok (.iload_n 2, 1) := by decide +kernel
theorem dX5_ofSale_38 : decode cX5_ofSale 38 = .ok (.invokevirtual 160, 3) := by decide +kernel
theorem dX5_ofSale_41 : decode cX5_ofSale 41 = .ok (.ireturn, 1) := by decide +kernel
theorem dX5_many_0 : decode cX5_many 0 = .ok (.iload_n 1, 1) := by decide +kernel
theorem dX5_many_1 : decode cX5_many 1 = .ok (.iconst 0, 1) := by decide +kernel
theorem dX5_many_2 : decode cX5_many 2 = .ok (.bipush 15, 2) := by decide +kernel
theorem dX5_many_4 : decode cX5_many 4 = .ok (.invokestatic 22, 3) := by decide +kernel
theorem dX5_many_7 : decode cX5_many 7 = .ok (.invokestatic 26, 3) := by decide +kernel
theorem dX5_many_10 : decode cX5_many 10 = .ok (.aload_n 0, 1) := by decide +kernel
theorem dX5_many_11 : decode cX5_many 11 = .ok (.getfield 10, 3) := by decide +kernel
theorem dX5_many_14 : decode cX5_many 14 = .ok (.iload_n 1, 1) := by decide +kernel
theorem dX5_many_15 : decode cX5_many 15 = .ok (.invokevirtual 163, 3) := by decide +kernel
theorem dX5_many_18 : decode cX5_many 18 = .ok (.ireturn, 1) := by decide +kernel
theorem dX5_wouldCome_0 : decode cX5_wouldCome 0 = .ok (.aload_n 0, 1) := by decide +kernel
theorem dX5_wouldCome_1 : decode cX5_wouldCome 1 = .ok (.iload_n 1, 1) := by decide +kernel
theorem dX5_wouldCome_2 : decode cX5_wouldCome 2 = .ok (.invokevirtual 51, 3) := by decide +kernel
theorem dX5_wouldCome_5 : decode cX5_wouldCome 5 = .ok (.iload_n 2, 1) := by decide +kernel
theorem dX5_wouldCome_6 : decode cX5_wouldCome 6 = .ok (.iconst 0, 1) := by decide +kernel
theorem dX5_wouldCome_7 : decode cX5_wouldCome 7 = .ok (.bipush 99, 2) := by decide +kernel
theorem dX5_wouldCome_9 : decode cX5_wouldCome 9 = .ok (.invokestatic 22, 3) := by decide +kernel
theorem dX5_wouldCome_12 : decode cX5_wouldCome 12 = .ok (.ifCond .eq 17, 3) := by decide +kernel
theorem dX5_wouldCome_15 : decode cX5_wouldCome 15 = .ok (.iload_n 3, 1) := by decide +kernel
theorem dX5_wouldCome_16 : decode cX5_wouldCome 16 = .ok (.iconst 1, 1) := by decide +kernel
theorem dX5_wouldCome_17 : decode cX5_wouldCome 17 = .ok (.bipush 70, 2) := by decide +kernel
theorem dX5_wouldCome_19 : decode cX5_wouldCome 19 = .ok (.invokestatic 22, 3) := by decide +kernel
theorem dX5_wouldCome_22 : decode cX5_wouldCome 22 = .ok (.ifCond .eq 7, 3) := by decide +kernel
theorem dX5_wouldCome_25 : decode cX5_wouldCome 25 = .ok (.iconst 1, 1) := by decide +kernel
theorem dX5_wouldCome_26 : decode cX5_wouldCome 26 = .ok (.goto 4, 3) := by decide +kernel
theorem dX5_wouldCome_29 : decode cX5_wouldCome 29 = .ok (.iconst 0, 1) := by decide +kernel
theorem dX5_wouldCome_30 : decode cX5_wouldCome 30 = .ok (.invokestatic 26, 3) := by decide +kernel
theorem dX5_wouldCome_33 : decode cX5_wouldCome 33 = .ok (.aload_n 0, 1) := by decide +kernel
theorem dX5_wouldCome_34 : decode cX5_wouldCome 34 = .ok (.iload_n 2, 1) := by decide +kernel
theorem dX5_wouldCome_35 : decode cX5_wouldCome 35 = .ok (.iload_n 3, 1) := by decide +kernel
theorem dX5_wouldCome_36 : decode cX5_wouldCome 36 = .ok (.invokevirtual 172, 3) := by decide +kernel
theorem dX5_wouldCome_39 : decode cX5_wouldCome 39 = .ok (.aload_n 0, 1) := by decide +kernel
theorem dX5_wouldCome_40 : decode cX5_wouldCome 40 = .ok (.iload_n 1, 1) := by decide +kernel
theorem dX5_wouldCome_41 : decode cX5_wouldCome 41 = .ok (.invokevirtual 176, 3) := by decide +kernel
theorem dX5_wouldCome_44 : decode cX5_wouldCome 44 = .ok (.ireturn, 1) := by decide +kernel
theorem dX5_bestDig_0 : decode cX5_bestDig 0 = .ok (.iload_n 1, 1) := by decide +kernel
theorem dX5_bestDig_1 : decode cX5_bestDig 1 = .ok (.iconst 0, 1) := by decide +kernel
theorem dX5_bestDig_2 : decode cX5_bestDig 2 = .ok (.bipush 99, 2) := by decide +kernel
theorem dX5_bestDig_4 : decode cX5_bestDig 4 = .ok (.invokestatic 22, 3) := by decide +kernel
theorem dX5_bestDig_7 : decode cX5_bestDig 7 = .ok (.ifCond .eq 17, 3) := by decide +kernel
theorem dX5_bestDig_10 : decode cX5_bestDig 10 = .ok (.iload_n 2, 1) := by decide +kernel
theorem dX5_bestDig_11 : decode cX5_bestDig 11 = .ok (.iconst 1, 1) := by decide +kernel
theorem dX5_bestDig_12 : decode cX5_bestDig 12 = .ok (.bipush 35, 2) := by decide +kernel
theorem dX5_bestDig_14 : decode cX5_bestDig 14 = .ok (.invokestatic 22, 3) := by decide +kernel
theorem dX5_bestDig_17 : decode cX5_bestDig 17 = .ok (.ifCond .eq 7, 3) := by decide +kernel
theorem dX5_bestDig_20 : decode cX5_bestDig 20 = .ok (.iconst 1, 1) := by decide +kernel
theorem dX5_bestDig_21 : decode cX5_bestDig 21 = .ok (.goto 4, 3) := by decide +kernel
theorem dX5_bestDig_24 : decode cX5_bestDig 24 = .ok (.iconst 0, 1) := by decide +kernel
theorem dX5_bestDig_25 : decode cX5_bestDig 25 = .ok (.invokestatic 26, 3) := by decide +kernel
theorem dX5_bestDig_28 : decode cX5_bestDig 28 = .ok (.iconst 0, 1) := by decide +kernel
theorem dX5_bestDig_29 : decode cX5_bestDig 29 = .ok (.istore_n 3, 1) := by decide +kernel
theorem dX5_bestDig_30 : decode cX5_bestDig 30 = .ok (.iconst (-1), 1) := by decide +kernel
theorem dX5_bestDig_31 : decode cX5_bestDig 31 = .ok (.istore 4, 2) := by decide +kernel
theorem dX5_bestDig_33 : decode cX5_bestDig 33 = .ok (.iconst 0, 1) := by decide +kernel
theorem dX5_bestDig_34 : decode cX5_bestDig 34 = .ok (.istore 5, 2) := by decide +kernel
theorem dX5_bestDig_36 : decode cX5_bestDig 36 = .ok (.iload 5, 2) := by decide +kernel
theorem dX5_bestDig_38 : decode cX5_bestDig 38 = .ok (.bipush 20, 2) := by decide +kernel
theorem dX5_bestDig_40 : decode cX5_bestDig 40 = .ok (.if_icmp .gt 80, 3) := by decide +kernel
theorem dX5_bestDig_43 : decode cX5_bestDig 43 = .ok (.aload_n 0, 1) := by decide +kernel
theorem dX5_bestDig_44 : decode cX5_bestDig 44 = .ok (.getfield 10, 3) := by decide +kernel
theorem dX5_bestDig_47 : decode cX5_bestDig 47 = .ok (.getfield 97, 3) := by decide +kernel
theorem dX5_bestDig_50 : decode cX5_bestDig 50 = .ok (.getfield 101, 3) := by decide +kernel
theorem dX5_bestDig_53 : decode cX5_bestDig 53 = .ok (.iload 5, 2) := by decide +kernel
theorem dX5_bestDig_55 : decode cX5_bestDig 55 = .ok (.iadd, 1) := by decide +kernel
theorem dX5_bestDig_56 : decode cX5_bestDig 56 = .ok (.bipush 90, 2) := by decide +kernel
theorem dX5_bestDig_58 : decode cX5_bestDig 58 = .ok (.if_icmp .gt 56, 3) := by decide +kernel
theorem dX5_bestDig_61 : decode cX5_bestDig 61 = .ok (.aload_n 0, 1) := by decide +kernel
theorem dX5_bestDig_62 : decode cX5_bestDig 62 = .ok (.getfield 16, 3) := by decide +kernel
theorem dX5_bestDig_65 : decode cX5_bestDig 65 = .ok (.aload_n 0, 1) := by decide +kernel
theorem dX5_bestDig_66 : decode cX5_bestDig 66 = .ok (.getfield 10, 3) := by decide +kernel
theorem dX5_bestDig_69 : decode cX5_bestDig 69 = .ok (.invokevirtual 179, 3) := by decide +kernel
theorem dX5_bestDig_72 : decode cX5_bestDig 72 = .ok (.aload_n 0, 1) := by decide +kernel
theorem dX5_bestDig_73 : decode cX5_bestDig 73 = .ok (.getfield 16, 3) := by decide +kernel
theorem dX5_bestDig_76 : decode cX5_bestDig 76 = .ok (.getfield 97, 3) := by decide +kernel
theorem dX5_bestDig_79 : decode cX5_bestDig 79 = .ok (.dup, 1) := by decide +kernel
theorem dX5_bestDig_80 : decode cX5_bestDig 80 = .ok (.getfield 101, 3) := by decide +kernel
theorem dX5_bestDig_83 : decode cX5_bestDig 83 = .ok (.iload 5, 2) := by decide +kernel
theorem dX5_bestDig_85 : decode cX5_bestDig 85 = .ok (.iadd, 1) := by decide +kernel
theorem dX5_bestDig_86 : decode cX5_bestDig 86 = .ok (.putfield 101, 3) := by decide +kernel
theorem dX5_bestDig_89 : decode cX5_bestDig 89 = .ok (.aload_n 0, 1) := by decide +kernel
theorem dX5_bestDig_90 : decode cX5_bestDig 90 = .ok (.getfield 16, 3) := by decide +kernel
theorem dX5_bestDig_93 : decode cX5_bestDig 93 = .ok (.iload_n 1, 1) := by decide +kernel
theorem dX5_bestDig_94 : decode cX5_bestDig 94 = .ok (.iload_n 2, 1) := by decide +kernel
theorem dX5_bestDig_95 : decode cX5_bestDig 95 = .ok (.invokevirtual 142, 3) := by decide +kernel
theorem dX5_bestDig_98 : decode cX5_bestDig 98 = .ok (.istore 6, 2) := by decide +kernel
theorem dX5_bestDig_100 : decode cX5_bestDig 100 = .ok (.iload 6, 2) := by decide +kernel
theorem dX5_bestDig_102 : decode cX5_bestDig 102 = .ok (.iload 4, 2) := by decide +kernel
theorem dX5_bestDig_104 : decode cX5_bestDig 104 = .ok (.if_icmp .le 10, 3) := by decide +kernel
theorem dX5_bestDig_107 : decode cX5_bestDig 107 = .ok (.iload 6, 2) := by decide +kernel
theorem dX5_bestDig_109 : decode cX5_bestDig 109 = .ok (.istore 4, 2) := by decide +kernel
theorem dX5_bestDig_111 : decode cX5_bestDig 111 = .ok (.iload 5, 2) := by decide +kernel
theorem dX5_bestDig_113 : decode cX5_bestDig 113 = .ok (.istore_n 3, 1) := by decide +kernel
theorem dX5_bestDig_114 : decode cX5_bestDig 114 = .ok (.iinc 5 1, 3) := by decide +kernel
theorem dX5_bestDig_117 : decode cX5_bestDig 117 = .ok (.goto (-81), 3) := by decide +kernel
theorem dX5_bestDig_120 : decode cX5_bestDig 120 = .ok (.iload_n 3, 1) := by decide +kernel
theorem dX5_bestDig_121 : decode cX5_bestDig 121 = .ok (.ireturn, 1) := by decide +kernel
theorem dX5_pumpTakes_0 : decode cX5_pumpTakes 0 = .ok (.iload_n 1, 1) := by decide +kernel
theorem dX5_pumpTakes_1 : decode cX5_pumpTakes 1 = .ok (.iconst 0, 1) := by decide +kernel
theorem dX5_pumpTakes_2 : decode cX5_pumpTakes 2 = .ok (.bipush 20, 2) := by decide +kernel
theorem dX5_pumpTakes_4 : decode cX5_pumpTakes 4 = .ok (.invokestatic 22, 3) := by decide +kernel
theorem dX5_pumpTakes_7 : decode cX5_pumpTakes 7 = .ok (.ifCond .eq 27, 3) := by decide +kernel
theorem dX5_pumpTakes_10 : decode cX5_pumpTakes 10 = .ok (.iload_n 2, 1) := by decide +kernel
theorem dX5_pumpTakes_11 : decode cX5_pumpTakes 11 = .ok (.iconst 0, 1) := by decide +kernel
theorem dX5_pumpTakes_12 : decode cX5_pumpTakes 12 = .ok (.bipush 99, 2) := by decide +kernel
theorem dX5_pumpTakes_14 : decode cX5_pumpTakes 14 = .ok (.invokestatic 22, 3) := by decide +kernel
theorem dX5_pumpTakes_17 : decode cX5_pumpTakes 17 = .ok (.ifCond .eq 17, 3) := by decide +kernel
theorem dX5_pumpTakes_20 : decode cX5_pumpTakes 20 = .ok (.iload_n 3, 1) := by decide +kernel
theorem dX5_pumpTakes_21 : decode cX5_pumpTakes 21 = .ok (.iconst 1, 1) := by decide +kernel
theorem dX5_pumpTakes_22 : decode cX5_pumpTakes 22 = .ok (.bipush 70, 2) := by decide +kernel
theorem dX5_pumpTakes_24 : decode cX5_pumpTakes 24 = .ok (.invokestatic 22, 3) := by decide +kernel
theorem dX5_pumpTakes_27 : decode cX5_pumpTakes 27 = .ok (.ifCond .eq 7, 3) := by decide +kernel
theorem dX5_pumpTakes_30 : decode cX5_pumpTakes 30 = .ok (.iconst 1, 1) := by decide +kernel
theorem dX5_pumpTakes_31 : decode cX5_pumpTakes 31 = .ok (.goto 4, 3) := by decide +kernel
theorem dX5_pumpTakes_34 : decode cX5_pumpTakes 34 = .ok (.iconst 0, 1) := by decide +kernel
theorem dX5_pumpTakes_35 : decode cX5_pumpTakes 35 = .ok (.invokestatic 26, 3) := by decide +kernel
theorem dX5_pumpTakes_38 : decode cX5_pumpTakes 38 = .ok (.aload_n 0, 1) := by decide +kernel
theorem dX5_pumpTakes_39 : decode cX5_pumpTakes 39 = .ok (.getfield 16, 3) := by decide +kernel
theorem dX5_pumpTakes_42 : decode cX5_pumpTakes 42 = .ok (.aload_n 0, 1) := by decide +kernel
theorem dX5_pumpTakes_43 : decode cX5_pumpTakes 43 = .ok (.getfield 10, 3) := by decide +kernel
theorem dX5_pumpTakes_46 : decode cX5_pumpTakes 46 = .ok (.invokevirtual 179, 3) := by decide +kernel
theorem dX5_pumpTakes_49 : decode cX5_pumpTakes 49 = .ok (.aload_n 0, 1) := by decide +kernel
theorem dX5_pumpTakes_50 : decode cX5_pumpTakes 50 = .ok (.getfield 16, 3) := by decide +kernel
theorem dX5_pumpTakes_53 : decode cX5_pumpTakes 53 = .ok (.iload_n 2, 1) := by decide +kernel
theorem dX5_pumpTakes_54 : decode cX5_pumpTakes 54 = .ok (.iload_n 3, 1) := by decide +kernel
theorem dX5_pumpTakes_55 : decode cX5_pumpTakes 55 = .ok (.invokevirtual 142, 3) := by decide +kernel
theorem dX5_pumpTakes_58 : decode cX5_pumpTakes 58 = .ok (.istore 4, 2) := by decide +kernel
theorem dX5_pumpTakes_60 : decode cX5_pumpTakes 60 = .ok (.aload_n 0, 1) := by decide +kernel
theorem dX5_pumpTakes_61 : decode cX5_pumpTakes 61 = .ok (.getfield 16, 3) := by decide +kernel
theorem dX5_pumpTakes_64 : decode cX5_pumpTakes 64 = .ok (.aload_n 0, 1) := by decide +kernel
theorem dX5_pumpTakes_65 : decode cX5_pumpTakes 65 = .ok (.getfield 10, 3) := by decide +kernel
theorem dX5_pumpTakes_68 : decode cX5_pumpTakes 68 = .ok (.invokevirtual 179, 3) := by decide +kernel
theorem dX5_pumpTakes_71 : decode cX5_pumpTakes 71 = .ok (.aload_n 0, 1) := by decide +kernel
theorem dX5_pumpTakes_72 : decode cX5_pumpTakes 72 = .ok (.getfield 16, 3) := by decide +kernel
theorem dX5_pumpTakes_75 : decode cX5_pumpTakes 75 = .ok (.getfield 97, 3) := by decide +kernel
theorem dX5_pumpTakes_78 : decode cX5_pumpTakes 78 = .ok (.iload_n 1, 1) := by decide +kernel
theorem dX5_pumpTakes_79 : decode cX5_pumpTakes 79 = .ok (.putfield 118, 3) := by decide +kernel
theorem dX5_pumpTakes_82 : decode cX5_pumpTakes 82 = .ok (.iload 4, 2) := by decide +kernel
theorem dX5_pumpTakes_84 : decode cX5_pumpTakes 84 = .ok (.aload_n 0, 1) := by decide +kernel
theorem dX5_pumpTakes_85 : decode cX5_pumpTakes 85 = .ok (.getfield 16, 3) := by decide +kernel
theorem dX5_pumpTakes_88 : decode cX5_pumpTakes 88 = .ok (.iload_n 2, 1) := by decide +kernel
theorem dX5_pumpTakes_89 : decode cX5_pumpTakes 89 = .ok (.iload_n 3, 1) := by decide +kernel
theorem dX5_pumpTakes_90 : decode cX5_pumpTakes 90 = .ok (.invokevirtual 142, 3) := by decide +kernel
theorem dX5_pumpTakes_93 : decode cX5_pumpTakes 93 = .ok (.isub, 1) := by decide +kernel
theorem dX5_pumpTakes_94 : decode cX5_pumpTakes 94 = .ok (.ireturn, 1) := by decide +kernel
theorem dX5_wouldReap_0 : decode cX5_wouldReap 0 = .ok (.aload_n 0, 1) := by decide +kernel
theorem dX5_wouldReap_1 : decode cX5_wouldReap 1 = .ok (.iload_n 1, 1) := by decide +kernel
theorem dX5_wouldReap_2 : decode cX5_wouldReap 2 = .ok (.invokevirtual 51, 3) := by decide +kernel
theorem dX5_wouldReap_5 : decode cX5_wouldReap 5 = .ok (.iload_n 2, 1) := by decide +kernel
theorem dX5_wouldReap_6 : decode cX5_wouldReap 6 = .ok (.iconst 0, 1) := by decide +kernel
theorem dX5_wouldReap_7 : decode cX5_wouldReap 7 = .ok (.bipush 99, 2) := by decide +kernel
theorem dX5_wouldReap_9 : decode cX5_wouldReap 9 = .ok (.invokestatic 22, 3) := by decide +kernel
theorem dX5_wouldReap_12 : decode cX5_wouldReap 12 = .ok (.invokestatic 26, 3) := by decide +kernel
theorem dX5_wouldReap_15 : decode cX5_wouldReap 15 = .ok (.aload_n 0, 1) := by decide +kernel
theorem dX5_wouldReap_16 : decode cX5_wouldReap 16 = .ok (.iload_n 2, 1) := by decide +kernel
theorem dX5_wouldReap_17 : decode cX5_wouldReap 17 = .ok (.invokevirtual 183, 3) := by decide +kernel
theorem dX5_wouldReap_20 : decode cX5_wouldReap 20 = .ok (.aload_n 0, 1) := by decide +kernel
theorem dX5_wouldReap_21 : decode cX5_wouldReap 21 = .ok (.iload_n 1, 1) := by decide +kernel
theorem dX5_wouldReap_22 : decode cX5_wouldReap 22 = .ok (.invokevirtual 186, 3) := by decide +kernel
theorem dX5_wouldReap_25 : decode cX5_wouldReap 25 = .ok (.ireturn, 1) := by decide +kernel
theorem dX5_digest_0 : decode cX5_digest 0 = .ok (.ldc2_w 189, 3) := by decide +kernel
theorem dX5_digest_3 : decode cX5_digest 3 = .ok (.lstore_n 1, 1) := by decide +kernel
theorem dX5_digest_4 : decode cX5_digest 4 = .ok (.iconst 0, 1) := by decide +kernel
theorem dX5_digest_5 : decode cX5_digest 5 = .ok (.istore_n 3, 1) := by decide +kernel
theorem dX5_digest_6 : decode cX5_digest 6 = .ok (.iload_n 3, 1) := by decide +kernel
theorem dX5_digest_7 : decode cX5_digest 7 = .ok (.bipush 15, 2) := by decide +kernel
theorem dX5_digest_9 : decode cX5_digest 9 = .ok (.if_icmp .gt 22, 3) := by decide +kernel
theorem dX5_digest_12 : decode cX5_digest 12 = .ok (.lload_n 1, 1) := by decide +kernel
theorem dX5_digest_13 : decode cX5_digest 13 = .ok (.ldc2_w 191, 3) := by decide +kernel
theorem dX5_digest_16 : decode cX5_digest 16 = .ok (.lmul, 1) := by decide +kernel
theorem dX5_digest_17 : decode cX5_digest 17 = .ok (.aload_n 0, 1) := by decide +kernel
theorem dX5_digest_18 : decode cX5_digest 18 = .ok (.iload_n 3, 1) := by decide +kernel
theorem dX5_digest_19 : decode cX5_digest 19 = .ok (.invokevirtual 193, 3) := by decide +kernel
theorem dX5_digest_22 : decode cX5_digest 22 = .ok (.i2l, 1) := by decide +kernel
theorem dX5_digest_23 : decode cX5_digest 23 = .ok (.ladd, 1) := by decide +kernel
theorem dX5_digest_24 : decode cX5_digest 24 = .ok (.lstore_n 1, 1) := by decide +kernel
theorem dX5_digest_25 : decode cX5_digest 25 = .ok (.iinc 3 1, 3) := by decide +kernel
theorem dX5_digest_28 : decode cX5_digest 28 = .ok (.goto (-22), 3) := by decide +kernel
theorem dX5_digest_31 : decode cX5_digest 31 = .ok (.aload_n 0, 1) := by decide +kernel
theorem dX5_digest_32 : decode cX5_digest 32 = .ok (.iconst 0, 1) := by decide +kernel
theorem dX5_digest_33 : decode cX5_digest 33 = .ok (.bipush 7, 2) := by decide +kernel
theorem dX5_digest_35 : decode cX5_digest 35 = .ok (.invokevirtual 172, 3) := by decide +kernel
theorem dX5_digest_38 : decode cX5_digest 38 = .ok (.aload_n 0, 1) := by decide +kernel
theorem dX5_digest_39 : decode cX5_digest 39 = .ok (.iconst 3, 1) := by decide +kernel
theorem dX5_digest_40 : decode cX5_digest 40 = .ok (.invokevirtual 183, 3) := by decide +kernel
theorem dX5_digest_43 : decode cX5_digest 43 = .ok (.aload_n 0, 1) := by decide +kernel
theorem dX5_digest_44 : decode cX5_digest 44 = .ok (.lload_n 1, 1) := by decide +kernel
theorem dX5_digest_45 : decode cX5_digest 45 = .ok (.invokevirtual 196, 3) := by decide +kernel
theorem dX5_digest_48 : decode cX5_digest 48 = .ok (.lstore_n 1, 1) := by decide +kernel
theorem dX5_digest_49 : decode cX5_digest 49 = .ok (.iconst 0, 1) := by decide +kernel
theorem dX5_digest_50 : decode cX5_digest 50 = .ok (.istore_n 3, 1) := by decide +kernel
theorem dX5_digest_51 : decode cX5_digest 51 = .ok (.iload_n 3, 1) := by decide +kernel
theorem dX5_digest_52 : decode cX5_digest 52 = .ok (.sipush 5040, 3) := by decide +kernel
theorem dX5_digest_55 : decode cX5_digest 55 = .ok (.if_icmp .ge 40, 3) := by decide +kernel
theorem dX5_digest_58 : decode cX5_digest 58 = .ok (.lload_n 1, 1) := by decide +kernel
theorem dX5_digest_59 : decode cX5_digest 59 = .ok (.ldc2_w 191, 3) := by decide +kernel
theorem dX5_digest_62 : decode cX5_digest 62 = .ok (.lmul, 1) := by decide +kernel
theorem dX5_digest_63 : decode cX5_digest 63 = .ok (.aload_n 0, 1) := by decide +kernel
theorem dX5_digest_64 : decode cX5_digest 64 = .ok (.iload_n 3, 1) := by decide +kernel
theorem dX5_digest_65 : decode cX5_digest 65 = .ok (.iconst 0, 1) := by decide +kernel
theorem dX5_digest_66 : decode cX5_digest 66 = .ok (.invokevirtual 200, 3) := by decide +kernel
theorem dX5_digest_69 : decode cX5_digest 69 = .ok (.i2l, 1) := by decide +kernel
theorem dX5_digest_70 : decode cX5_digest 70 = .ok (.ladd, 1) := by decide +kernel
theorem dX5_digest_71 : decode cX5_digest 71 = .ok (.lstore_n 1, 1) := by decide +kernel
theorem dX5_digest_72 : decode cX5_digest 72 = .ok (.lload_n 1, 1) := by decide +kernel
theorem dX5_digest_73 : decode cX5_digest 73 = .ok (.ldc2_w 191, 3) := by decide +kernel
theorem dX5_digest_76 : decode cX5_digest 76 = .ok (.lmul, 1) := by decide +kernel
theorem dX5_digest_77 : decode cX5_digest 77 = .ok (.aload_n 0, 1) := by decide +kernel
theorem dX5_digest_78 : decode cX5_digest 78 = .ok (.iload_n 3, 1) := by decide +kernel
theorem dX5_digest_79 : decode cX5_digest 79 = .ok (.iconst 1, 1) := by decide +kernel
theorem dX5_digest_80 : decode cX5_digest 80 = .ok (.invokevirtual 200, 3) := by decide +kernel
theorem dX5_digest_83 : decode cX5_digest 83 = .ok (.i2l, 1) := by decide +kernel
theorem dX5_digest_84 : decode cX5_digest 84 = .ok (.ladd, 1) := by decide +kernel
theorem dX5_digest_85 : decode cX5_digest 85 = .ok (.lstore_n 1, 1) := by decide +kernel
theorem dX5_digest_86 : decode cX5_digest 86 = .ok (.iinc 3 720, 6) := by decide +kernel
theorem dX5_digest_92 : decode cX5_digest 92 = .ok (.goto (-41), 3) := by decide +kernel
theorem dX5_digest_95 : decode cX5_digest 95 = .ok (.iconst 0, 1) := by decide +kernel
theorem dX5_digest_96 : decode cX5_digest 96 = .ok (.istore_n 3, 1) := by decide +kernel
theorem dX5_digest_97 : decode cX5_digest 97 = .ok (.iload_n 3, 1) := by decide +kernel
theorem dX5_digest_98 : decode cX5_digest 98 = .ok (.aload_n 0, 1) := by decide +kernel
theorem dX5_digest_99 : decode cX5_digest 99 = .ok (.getfield 10, 3) := by decide +kernel
theorem dX5_digest_102 : decode cX5_digest 102 = .ok (.getfield 76, 3) := by decide +kernel
theorem dX5_digest_105 : decode cX5_digest 105 = .ok (.invokevirtual 90, 3) := by decide +kernel
theorem dX5_digest_108 : decode cX5_digest 108 = .ok (.if_icmp .ge 39, 3) := by decide +kernel
theorem dX5_digest_111 : decode cX5_digest 111 = .ok (.iconst 0, 1) := by decide +kernel
theorem dX5_digest_112 : decode cX5_digest 112 = .ok (.istore 4, 2) := by decide +kernel
theorem dX5_digest_114 : decode cX5_digest 114 = .ok (.iload 4, 2) := by decide +kernel
theorem dX5_digest_116 : decode cX5_digest 116 = .ok (.iconst 3, 1) := by decide +kernel
theorem dX5_digest_117 : decode cX5_digest 117 = .ok (.if_icmp .gt 24, 3) := by decide +kernel
theorem dX5_digest_120 : decode cX5_digest 120 = .ok (.lload_n 1, 1) := by decide +kernel
theorem dX5_digest_121 : decode cX5_digest 121 = .ok (.ldc2_w 191, 3) := by decide +kernel
theorem dX5_digest_124 : decode cX5_digest 124 = .ok (.lmul, 1) := by decide +kernel
theorem dX5_digest_125 : decode cX5_digest 125 = .ok (.aload_n 0, 1) := by decide +kernel
theorem dX5_digest_126 : decode cX5_digest 126 = .ok (.iload_n 3, 1) := by decide +kernel
theorem dX5_digest_127 : decode cX5_digest 127 = .ok (.iload 4, 2) := by decide +kernel
theorem dX5_digest_129 : decode cX5_digest 129 = .ok (.invokevirtual 203, 3) := by decide +kernel
theorem dX5_digest_132 : decode cX5_digest 132 = .ok (.i2l, 1) := by decide +kernel
theorem dX5_digest_133 : decode cX5_digest 133 = .ok (.ladd, 1) := by decide +kernel
theorem dX5_digest_134 : decode cX5_digest 134 = .ok (.lstore_n 1, 1) := by decide +kernel
theorem dX5_digest_135 : decode cX5_digest 135 = .ok (.iinc 4 1, 3) := by decide +kernel
theorem dX5_digest_138 : decode cX5_digest 138 = .ok (.goto (-24), 3) := by decide +kernel
theorem dX5_digest_141 : decode cX5_digest 141 = .ok (.iinc 3 1, 3) := by decide +kernel
theorem dX5_digest_144 : decode cX5_digest 144 = .ok (.goto (-47), 3) := by decide +kernel
theorem dX5_digest_147 : decode cX5_digest 147 = .ok (.iconst 0, 1) := by decide +kernel
theorem dX5_digest_148 : decode cX5_digest 148 = .ok (.istore_n 3, 1) := by decide +kernel
theorem dX5_digest_149 : decode cX5_digest 149 = .ok (.iload_n 3, 1) := by decide +kernel
theorem dX5_digest_150 : decode cX5_digest 150 = .ok (.aload_n 0, 1) := by decide +kernel
theorem dX5_digest_151 : decode cX5_digest 151 = .ok (.getfield 10, 3) := by decide +kernel
theorem dX5_digest_154 : decode cX5_digest 154 = .ok (.getfield 136, 3) := by decide +kernel
theorem dX5_digest_157 : decode cX5_digest 157 = .ok (.invokevirtual 90, 3) := by decide +kernel
theorem dX5_digest_160 : decode cX5_digest 160 = .ok (.if_icmp .ge 39, 3) := by decide +kernel
theorem dX5_digest_163 : decode cX5_digest 163 = .ok (.iconst 0, 1) := by decide +kernel
theorem dX5_digest_164 : decode cX5_digest 164 = .ok (.istore 4, 2) := by decide +kernel
theorem dX5_digest_166 : decode cX5_digest 166 = .ok (.iload 4, 2) := by decide +kernel
theorem dX5_digest_168 : decode cX5_digest 168 = .ok (.iconst 2, 1) := by decide +kernel
theorem dX5_digest_169 : decode cX5_digest 169 = .ok (.if_icmp .gt 24, 3) := by decide +kernel
theorem dX5_digest_172 : decode cX5_digest 172 = .ok (.lload_n 1, 1) := by decide +kernel
theorem dX5_digest_173 : decode cX5_digest 173 = .ok (.ldc2_w 191, 3) := by decide +kernel
theorem dX5_digest_176 : decode cX5_digest 176 = .ok (.lmul, 1) := by decide +kernel
theorem dX5_digest_177 : decode cX5_digest 177 = .ok (.aload_n 0, 1) := by decide +kernel
theorem dX5_digest_178 : decode cX5_digest 178 = .ok (.iload_n 3, 1) := by decide +kernel
theorem dX5_digest_179 : decode cX5_digest 179 = .ok (.iload 4, 2) := by decide +kernel
theorem dX5_digest_181 : decode cX5_digest 181 = .ok (.invokevirtual 206, 3) := by decide +kernel
theorem dX5_digest_184 : decode cX5_digest 184 = .ok (.i2l, 1) := by decide +kernel
theorem dX5_digest_185 : decode cX5_digest 185 = .ok (.ladd, 1) := by decide +kernel
theorem dX5_digest_186 : decode cX5_digest 186 = .ok (.lstore_n 1, 1) := by decide +kernel
theorem dX5_digest_187 : decode cX5_digest 187 = .ok (.iinc 4 1, 3) := by decide +kernel
theorem dX5_digest_190 : decode cX5_digest 190 = .ok (.goto (-24), 3) := by decide +kernel
theorem dX5_digest_193 : decode cX5_digest 193 = .ok (.iinc 3 1, 3) := by decide +kernel
theorem dX5_digest_196 : decode cX5_digest 196 = .ok (.goto (-47), 3) := by decide +kernel
theorem dX5_digest_199 : decode cX5_digest 199 = .ok (.lload_n 1, 1) := by decide +kernel
theorem dX5_digest_200 : decode cX5_digest 200 = .ok (.ldc2_w 191, 3) := by decide +kernel
theorem dX5_digest_203 : decode cX5_digest 203 = .ok (.lmul, 1) := by decide +kernel
theorem dX5_digest_204 : decode cX5_digest 204 = .ok (.aload_n 0, 1) := by decide +kernel
theorem dX5_digest_205 : decode cX5_digest 205 = .ok (.iconst 0, 1) := by decide +kernel
theorem dX5_digest_206 : decode cX5_digest 206 = .ok (.iconst 3, 1) := by decide +kernel
theorem dX5_digest_207 : decode cX5_digest 207 = .ok (.invokevirtual 209, 3) := by decide +kernel
theorem dX5_digest_210 : decode cX5_digest 210 = .ok (.i2l, 1) := by decide +kernel
theorem dX5_digest_211 : decode cX5_digest 211 = .ok (.ladd, 1) := by decide +kernel
theorem dX5_digest_212 : decode cX5_digest 212 = .ok (.lstore_n 1, 1) := by decide +kernel
theorem dX5_digest_213 : decode cX5_digest 213 = .ok (.lload_n 1, 1) := by decide +kernel
theorem dX5_digest_214 : decode cX5_digest 214 = .ok (.ldc2_w 191, 3) := by decide +kernel
theorem dX5_digest_217 : decode cX5_digest 217 = .ok (.lmul, 1) := by decide +kernel
theorem dX5_digest_218 : decode cX5_digest 218 = .ok (.aload_n 0, 1) := by decide +kernel
theorem dX5_digest_219 : decode cX5_digest 219 = .ok (.iconst 5, 1) := by decide +kernel
theorem dX5_digest_220 : decode cX5_digest 220 = .ok (.iconst 0, 1) := by decide +kernel
theorem dX5_digest_221 : decode cX5_digest 221 = .ok (.bipush 9, 2) := by decide +kernel
theorem dX5_digest_223 : decode cX5_digest 223 = .ok (.invokevirtual 212, 3) := by decide +kernel
theorem dX5_digest_226 : decode cX5_digest 226 = .ok (.i2l, 1) := by decide +kernel
theorem dX5_digest_227 : decode cX5_digest 227 = .ok (.ladd, 1) := by decide +kernel
theorem dX5_digest_228 : decode cX5_digest 228 = .ok (.lreturn, 1) := by decide +kernel
theorem dX5_digestOwners_0 : decode cX5_digestOwners 0 = .ok (.lload_n 1, 1) := by decide +kernel
theorem dX5_digestOwners_1 : decode cX5_digestOwners 1 = .ok (.lstore_n 3, 1) := by decide +kernel
theorem dX5_digestOwners_2 : decode cX5_digestOwners 2 = .ok (.iconst 0, 1) := by decide +kernel
theorem dX5_digestOwners_3 : decode cX5_digestOwners 3 = .ok (.istore 5, 2) := by decide +kernel
theorem dX5_digestOwners_5 : decode cX5_digestOwners 5 = .ok (.iload 5, 2) := by decide +kernel
theorem dX5_digestOwners_7 : decode cX5_digestOwners 7 = .ok (.bipush 10, 2) := by decide +kernel
theorem dX5_digestOwners_9 : decode cX5_digestOwners 9 = .ok (.if_icmp .ge 84, 3) := by decide +kernel
theorem dX5_digestOwners_12 : decode cX5_digestOwners 12 = .ok (.aload_n 0, 1) := by decide +kernel
theorem dX5_digestOwners_13 : decode cX5_digestOwners 13 = .ok (.getfield 10, 3) := by decide +kernel
theorem dX5_digestOwners_16 : decode cX5_digestOwners 16 = .ok (.getfield 30, 3) := by decide +kernel
theorem dX5_digestOwners_19 : decode cX5_digestOwners 19 = .ok (.iload 5, 2) := by decide +kernel
theorem dX5_digestOwners_21 : decode cX5_digestOwners 21 = .ok (.invokevirtual 215, 3) := by decide +kernel
theorem dX5_digestOwners_24 : decode cX5_digestOwners 24 = .ok (.ifCond .eq 63, 3) := by decide +kernel
theorem dX5_digestOwners_27 : decode cX5_digestOwners 27 = .ok (.iconst 0, 1) := by decide +kernel
theorem dX5_digestOwners_28 : decode cX5_digestOwners 28 = .ok (.istore 6, 2) := by decide +kernel
theorem dX5_digestOwners_30 : decode cX5_digestOwners 30 = .ok (.iload 6, 2) := by decide +kernel
theorem dX5_digestOwners_32 : decode cX5_digestOwners 32 = .ok (.bipush 13, 2) := by decide +kernel
theorem dX5_digestOwners_34 : decode cX5_digestOwners 34 = .ok (.if_icmp .gt 25, 3) := by decide +kernel
theorem dX5_digestOwners_37 : decode cX5_digestOwners 37 = .ok (.lload_n 3, 1) := by decide +kernel
theorem dX5_digestOwners_38 : decode cX5_digestOwners 38 = .ok (.ldc2_w 191, 3) := by decide +kernel
theorem dX5_digestOwners_41 : decode cX5_digestOwners 41 = .ok (.lmul, 1) := by decide +kernel
theorem dX5_digestOwners_42 : decode cX5_digestOwners 42 = .ok (.aload_n 0, 1) := by decide +kernel
theorem dX5_digestOwners_43 : decode cX5_digestOwners 43 = .ok (.iload 5, 2) := by decide +kernel
theorem dX5_digestOwners_45 : decode cX5_digestOwners 45 = .ok (.iload 6, 2) := by decide +kernel
theorem dX5_digestOwners_47 : decode cX5_digestOwners 47 = .ok (.invokevirtual 218, 3) := by decide +kernel
theorem dX5_digestOwners_50 : decode cX5_digestOwners 50 = .ok (.i2l, 1) := by decide +kernel
theorem dX5_digestOwners_51 : decode cX5_digestOwners 51 = .ok (.ladd, 1) := by decide +kernel
theorem dX5_digestOwners_52 : decode cX5_digestOwners 52 = .ok (.lstore_n 3, 1) := by decide +kernel
theorem dX5_digestOwners_53 : decode cX5_digestOwners 53 = .ok (.iinc 6 1, 3) := by decide +kernel
theorem dX5_digestOwners_56 : decode cX5_digestOwners 56 = .ok (.goto (-26), 3) := by decide +kernel
theorem dX5_digestOwners_59 : decode cX5_digestOwners 59 = .ok (.lload_n 3, 1) := by decide +kernel
theorem dX5_digestOwners_60 : decode cX5_digestOwners 60 = .ok (.ldc2_w 191, 3) := by decide +kernel
theorem dX5_digestOwners_63 : decode cX5_digestOwners 63 = .ok (.lmul, 1) := by decide +kernel
theorem dX5_digestOwners_64 : decode cX5_digestOwners 64 = .ok (.aload_n 0, 1) := by decide +kernel
theorem dX5_digestOwners_65 : decode cX5_digestOwners 65 = .ok (.iload 5, 2) := by decide +kernel
theorem dX5_digestOwners_67 : decode cX5_digestOwners 67 = .ok (.invokevirtual 176, 3) := by decide +kernel
theorem dX5_digestOwners_70 : decode cX5_digestOwners 70 = .ok (.i2l, 1) := by decide +kernel
theorem dX5_digestOwners_71 : decode cX5_digestOwners 71 = .ok (.ladd, 1) := by decide +kernel
theorem dX5_digestOwners_72 : decode cX5_digestOwners 72 = .ok (.lstore_n 3, 1) := by decide +kernel
theorem dX5_digestOwners_73 : decode cX5_digestOwners 73 = .ok (.lload_n 3, 1) := by decide +kernel
theorem dX5_digestOwners_74 : decode cX5_digestOwners 74 = .ok (.ldc2_w 191, 3) := by decide +kernel
theorem dX5_digestOwners_77 : decode cX5_digestOwners 77 = .ok (.lmul, 1) := by decide +kernel
theorem dX5_digestOwners_78 : decode cX5_digestOwners 78 = .ok (.aload_n 0, 1) := by decide +kernel
theorem dX5_digestOwners_79 : decode cX5_digestOwners 79 = .ok (.iload 5, 2) := by decide +kernel
theorem dX5_digestOwners_81 : decode cX5_digestOwners 81 = .ok (.invokevirtual 186, 3) := by decide +kernel
theorem dX5_digestOwners_84 : decode cX5_digestOwners 84 = .ok (.i2l, 1) := by decide +kernel
theorem dX5_digestOwners_85 : decode cX5_digestOwners 85 = .ok (.ladd, 1) := by decide +kernel
theorem dX5_digestOwners_86 : decode cX5_digestOwners 86 = .ok (.lstore_n 3, 1) := by decide +kernel
theorem dX5_digestOwners_87 : decode cX5_digestOwners 87 = .ok (.iinc 5 1, 3) := by decide +kernel
theorem dX5_digestOwners_90 : decode cX5_digestOwners 90 = .ok (.goto (-85), 3) := by decide +kernel
theorem dX5_digestOwners_93 : decode cX5_digestOwners 93 = .ok (.lload_n 3, 1) := by decide +kernel
theorem dX5_digestOwners_94 : decode cX5_digestOwners 94 = .ok (.lreturn, 1) := by decide +kernel
theorem dX5_imagineLater_0 : decode cX5_imagineLater 0 = .ok (.aload_n 0, 1) := by decide +kernel
theorem dX5_imagineLater_1 : decode cX5_imagineLater 1 = .ok (.getfield 16, 3) := by decide +kernel
theorem dX5_imagineLater_4 : decode cX5_imagineLater 4 = .ok (.aload_n 0, 1) := by decide +kernel
theorem dX5_imagineLater_5 : decode cX5_imagineLater 5 = .ok (.getfield 10, 3) := by decide +kernel
theorem dX5_imagineLater_8 : decode cX5_imagineLater 8 = .ok (.invokevirtual 179, 3) := by decide +kernel
theorem dX5_imagineLater_11 : decode cX5_imagineLater 11 = .ok (.aload_n 0, 1) := by decide +kernel
theorem dX5_imagineLater_12 : decode cX5_imagineLater 12 = .ok (.getfield 16, 3) := by decide +kernel
theorem dX5_imagineLater_15 : decode cX5_imagineLater 15 = .ok (.iload_n 1, 1) := by decide +kernel
theorem dX5_imagineLater_16 : decode cX5_imagineLater 16 = .ok (.iload_n 2, 1) := by decide +kernel
theorem dX5_imagineLater_17 : decode cX5_imagineLater 17 = .ok (.invokevirtual 142, 3) := by decide +kernel
theorem dX5_imagineLater_20 : decode cX5_imagineLater 20 = .ok (.pop, 1) := by decide +kernel
theorem dX5_imagineLater_21 : decode cX5_imagineLater 21 = .ok (.return_, 1) := by decide +kernel
theorem dX5_cameUntilLater_0 : decode cX5_cameUntilLater 0 = .ok (.aload_n 0, 1) := by decide +kernel
theorem dX5_cameUntilLater_1 : decode cX5_cameUntilLater 1 = .ok (.getfield 16, 3) := by decide +kernel
theorem dX5_cameUntilLater_4 : decode cX5_cameUntilLater 4 = .ok (.getfield 30, 3) := by decide +kernel
theorem dX5_cameUntilLater_7 : decode cX5_cameUntilLater 7 = .ok (.iload_n 1, 1) := by decide +kernel
theorem dX5_cameUntilLater_8 : decode cX5_cameUntilLater 8 = .ok (.invokevirtual 55, 3) := by decide +kernel
theorem dX5_cameUntilLater_11 : decode cX5_cameUntilLater 11 = .ok (.getfield 221, 3) := by decide +kernel
theorem dX5_cameUntilLater_14 : decode cX5_cameUntilLater 14 = .ok (.aload_n 0, 1) := by decide +kernel
theorem dX5_cameUntilLater_15 : decode cX5_cameUntilLater 15 = .ok (.getfield 10, 3) := by decide +kernel
theorem dX5_cameUntilLater_18 : decode cX5_cameUntilLater 18 = .ok (.getfield 30, 3) := by decide +kernel
theorem dX5_cameUntilLater_21 : decode cX5_cameUntilLater 21 = .ok (.iload_n 1, 1) := by decide +kernel
theorem dX5_cameUntilLater_22 : decode cX5_cameUntilLater 22 = .ok (.invokevirtual 55, 3) := by decide +kernel
theorem dX5_cameUntilLater_25 : decode cX5_cameUntilLater 25 = .ok (.getfield 221, 3) := by decide +kernel
theorem dX5_cameUntilLater_28 : decode cX5_cameUntilLater 28 = .ok (.isub, 1) := by decide +kernel
theorem dX5_cameUntilLater_29 : decode cX5_cameUntilLater 29 = .ok (.ireturn, 1) := by decide +kernel
theorem dX5_imagineHarvest_0 : decode cX5_imagineHarvest 0 = .ok (.aload_n 0, 1) := by decide +kernel
theorem dX5_imagineHarvest_1 : decode cX5_imagineHarvest 1 = .ok (.getfield 19, 3) := by decide +kernel
theorem dX5_imagineHarvest_4 : decode cX5_imagineHarvest 4 = .ok (.aload_n 0, 1) := by decide +kernel
theorem dX5_imagineHarvest_5 : decode cX5_imagineHarvest 5 = .ok (.getfield 10, 3) := by decide +kernel
theorem dX5_imagineHarvest_8 : decode cX5_imagineHarvest 8 = .ok (.invokevirtual 179, 3) := by decide +kernel
theorem dX5_imagineHarvest_11 : decode cX5_imagineHarvest 11 = .ok (.aload_n 0, 1) := by decide +kernel
theorem dX5_imagineHarvest_12 : decode cX5_imagineHarvest 12 = .ok (.getfield 19, 3) := by decide +kernel
theorem dX5_imagineHarvest_15 : decode cX5_imagineHarvest 15 = .ok (.iload_n 1, 1) := by decide +kernel
theorem dX5_imagineHarvest_16 : decode cX5_imagineHarvest 16 = .ok (.aload_n 0, 1) := by decide +kernel
theorem dX5_imagineHarvest_17 : decode cX5_imagineHarvest 17 = .ok (.getfield 10, 3) := by decide +kernel
theorem dX5_imagineHarvest_20 : decode cX5_imagineHarvest 20 = .ok (.invokevirtual 224, 3) := by decide +kernel
theorem dX5_imagineHarvest_23 : decode cX5_imagineHarvest 23 = .ok (.invokevirtual 142, 3) := by decide +kernel
theorem dX5_imagineHarvest_26 : decode cX5_imagineHarvest 26 = .ok (.pop, 1) := by decide +kernel
theorem dX5_imagineHarvest_27 : decode cX5_imagineHarvest 27 = .ok (.return_, 1) := by decide +kernel
theorem dX5_reapedAtHarvest_0 : decode cX5_reapedAtHarvest 0 = .ok (.aload_n 0, 1) := by decide +kernel
theorem dX5_reapedAtHarvest_1 : decode cX5_reapedAtHarvest 1 = .ok (.getfield 19, 3) := by decide +kernel
theorem dX5_reapedAtHarvest_4 : decode cX5_reapedAtHarvest 4 = .ok (.getfield 30, 3) := by decide +kernel
theorem dX5_reapedAtHarvest_7 : decode cX5_reapedAtHarvest 7 = .ok (.iload_n 1, 1) := by decide +kernel
theorem dX5_reapedAtHarvest_8 : decode cX5_reapedAtHarvest 8 = .ok (.invokevirtual 55, 3) := by decide +kernel
theorem dX5_reapedAtHarvest_11 : decode cX5_reapedAtHarvest 11 = .ok (.getfield 227, 3) := by decide +kernel
theorem dX5_reapedAtHarvest_14 : decode cX5_reapedAtHarvest 14 = .ok (.ireturn, 1) := by decide +kernel
theorem dX5_isWithin_0 : decode cX5_isWithin 0 = .ok (.iload_n 1, 1) := by decide +kernel
theorem dX5_isWithin_1 : decode cX5_isWithin 1 = .ok (.iload_n 0, 1) := by decide +kernel
theorem dX5_isWithin_2 : decode cX5_isWithin 2 = .ok (.if_icmp .gt 12, 3) := by decide +kernel
theorem dX5_isWithin_5 : decode cX5_isWithin 5 = .ok (.iload_n 0, 1) := by decide +kernel
theorem dX5_isWithin_6 : decode cX5_isWithin 6 = .ok (.iload_n 2, 1) := by decide +kernel
theorem dX5_isWithin_7 : decode cX5_isWithin 7 = .ok (.if_icmp .gt 7, 3) := by decide +kernel
theorem dX5_isWithin_10 : decode cX5_isWithin 10 = .ok (.iconst 1, 1) := by decide +kernel
theorem dX5_isWithin_11 : decode cX5_isWithin 11 = .ok (.goto 4, 3) := by decide +kernel
theorem dX5_isWithin_14 : decode cX5_isWithin 14 = .ok (.iconst 0, 1) := by decide +kernel
theorem dX5_isWithin_15 : decode cX5_isWithin 15 = .ok (.ireturn, 1) := by decide +kernel
theorem dX5_mustBeRight_0 : decode cX5_mustBeRight 0 = .ok (.iload_n 0, 1) := by decide +kernel
theorem dX5_mustBeRight_1 : decode cX5_mustBeRight 1 = .ok (.ifCond .ne 11, 3) := by decide +kernel
theorem dX5_mustBeRight_4 : decode cX5_mustBeRight 4 = .ok (.new 230, 3) := by decide +kernel
theorem dX5_mustBeRight_7 : decode cX5_mustBeRight 7 = .ok (.dup, 1) := by decide +kernel
theorem dX5_mustBeRight_8 : decode cX5_mustBeRight 8 = .ok (.invokespecial 232, 3) := by decide +kernel
theorem dX5_mustBeRight_11 : decode cX5_mustBeRight 11 = .ok (.athrow, 1) := by decide +kernel
theorem dX5_mustBeRight_12 : decode cX5_mustBeRight 12 = .ok (.return_, 1) := by decide +kernel
theorem dX5_mustBePossible_0 : decode cX5_mustBePossible 0 = .ok (.iload_n 0, 1) := by decide +kernel
theorem dX5_mustBePossible_1 : decode cX5_mustBePossible 1 = .ok (.ifCond .ne 11, 3) := by decide +kernel
theorem dX5_mustBePossible_4 : decode cX5_mustBePossible 4 = .ok (.new 233, 3) := by decide +kernel
theorem dX5_mustBePossible_7 : decode cX5_mustBePossible 7 = .ok (.dup, 1) := by decide +kernel
theorem dX5_mustBePossible_8 : decode cX5_mustBePossible 8 = .ok (.invokespecial 235, 3) := by decide +kernel
theorem dX5_mustBePossible_11 : decode cX5_mustBePossible 11 = .ok (.athrow, 1) := by decide +kernel
theorem dX5_mustBePossible_12 : decode cX5_mustBePossible 12 = .ok (.return_, 1) := by decide +kernel
theorem dX5_mustExist_0 : decode cX5_mustExist 0 = .ok (.iload_n 0, 1) := by decide +kernel
theorem dX5_mustExist_1 : decode cX5_mustExist 1 = .ok (.ifCond .ne 11, 3) := by decide +kernel
theorem dX5_mustExist_4 : decode cX5_mustExist 4 = .ok (.new 236, 3) := by decide +kernel
theorem dX5_mustExist_7 : decode cX5_mustExist 7 = .ok (.dup, 1) := by decide +kernel
theorem dX5_mustExist_8 : decode cX5_mustExist 8 = .ok (.invokespecial 238, 3) := by decide +kernel
theorem dX5_mustExist_11 : decode cX5_mustExist 11 = .ok (.athrow, 1) := by decide +kernel
theorem dX5_mustExist_12 : decode cX5_mustExist 12 = .ok (.return_, 1) := by decide +kernel
theorem dX5_mustLive_0 : decode cX5_mustLive 0 = .ok (.aload_n 0, 1) := by decide +kernel
theorem dX5_mustLive_1 : decode cX5_mustLive 1 = .ok (.getfield 10, 3) := by decide +kernel
theorem dX5_mustLive_4 : decode cX5_mustLive 4 = .ok (.getfield 30, 3) := by decide +kernel
theorem dX5_mustLive_7 : decode cX5_mustLive 7 = .ok (.iload_n 1, 1) := by decide +kernel
theorem dX5_mustLive_8 : decode cX5_mustLive 8 = .ok (.invokevirtual 215, 3) := by decide +kernel
theorem dX5_mustLive_11 : decode cX5_mustLive 11 = .ok (.invokestatic 150, 3) := by decide +kernel
theorem dX5_mustLive_14 : decode cX5_mustLive 14 = .ok (.return_, 1) := by decide +kernel
end
section
theorem dX6_init_0 : decode cX6_init 0 = .ok (.aload_n 0, 1) := by decide +kernel
theorem dX6_init_1 : decode cX6_init 1 = .ok (.invokespecial 1, 3) := by decide +kernel
theorem dX6_init_4 : decode cX6_init 4 = .ok (.aload_n 0, 1) := by decide +kernel
theorem dX6_init_5 : decode cX6_init 5 = .ok (.new 7, 3) := by decide +kernel
theorem dX6_init_8 : decode cX6_init 8 = .ok (.dup, 1) := by decide +kernel
theorem dX6_init_9 : decode cX6_init 9 = .ok (.invokespecial 9, 3) := by decide +kernel
theorem dX6_init_12 : decode cX6_init 12 = .ok (.putfield 10, 3) := by decide +kernel
theorem dX6_init_15 : decode cX6_init 15 = .ok (.aload_n 0, 1) := by decide +kernel
theorem dX6_init_16 : decode cX6_init 16 = .ok (.bipush 10, 2) := by decide +kernel
theorem dX6_init_18 : decode cX6_init 18 = .ok (.bipush 11, 2) := by decide +kernel
theorem dX6_init_20 : decode cX6_init 20 = .ok (.multianewarray 16 2, 4) := by decide +kernel
theorem dX6_init_24 : decode cX6_init 24 = .ok (.putfield 18, 3) := by decide +kernel
theorem dX6_init_27 : decode cX6_init 27 = .ok (.aload_n 0, 1) := by decide +kernel
theorem dX6_init_28 : decode cX6_init 28 = .ok (.iconst 0, 1) := by decide +kernel
theorem dX6_init_29 : decode cX6_init 29 = .ok (.newarray .int, 2) := by decide +kernel
theorem dX6_init_31 : decode cX6_init 31 = .ok (.putfield 21, 3) := by decide +kernel
theorem dX6_init_34 : decode cX6_init 34 = .ok (.aload_n 0, 1) := by decide +kernel
theorem dX6_init_35 : decode cX6_init 35 = .ok (.sipush 5040, 3) := by decide +kernel
theorem dX6_init_38 : decode cX6_init 38 = .ok (.newarray .int, 2) := by decide +kernel
theorem dX6_init_40 : decode cX6_init 40 = .ok (.putfield 25, 3) := by decide +kernel
theorem dX6_init_43 : decode cX6_init 43 = .ok (.aload_n 0, 1) := by decide +kernel
theorem dX6_init_44 : decode cX6_init 44 = .ok (.sipush 5040, 3) := by decide +kernel
theorem dX6_init_47 : decode cX6_init 47 = .ok (.newarray .int, 2) := by decide +kernel
theorem dX6_init_49 : decode cX6_init 49 = .ok (.putfield 28, 3) := by decide +kernel
theorem dX6_init_52 : decode cX6_init 52 = .ok (.aload_n 0, 1) := by decide +kernel
theorem dX6_init_53 : decode cX6_init 53 = .ok (.iconst 0, 1) := by decide +kernel
theorem dX6_init_54 : decode cX6_init 54 = .ok (.anewarray 31, 3) := by decide +kernel
theorem dX6_init_57 : decode cX6_init 57 = .ok (.putfield 32, 3) := by decide +kernel
theorem dX6_init_60 : decode cX6_init 60 = .ok (.aload_n 0, 1) := by decide +kernel
theorem dX6_init_61 : decode cX6_init 61 = .ok (.iconst 0, 1) := by decide +kernel
theorem dX6_init_62 : decode cX6_init 62 = .ok (.anewarray 31, 3) := by decide +kernel
theorem dX6_init_65 : decode cX6_init 65 = .ok (.putfield 35, 3) := by decide +kernel
theorem dX6_init_68 : decode cX6_init 68 = .ok (.aload_n 0, 1) := by decide +kernel
theorem dX6_init_69 : decode cX6_init 69 = .ok (.sipush 200, 3) := by decide +kernel
theorem dX6_init_72 : decode cX6_init 72 = .ok (.putfield 38, 3) := by decide +kernel
theorem dX6_init_75 : decode cX6_init 75 = .ok (.aload_n 0, 1) := by decide +kernel
theorem dX6_init_76 : decode cX6_init 76 = .ok (.bipush 40, 2) := by decide +kernel
theorem dX6_init_78 : decode cX6_init 78 = .ok (.putfield 42, 3) := by decide +kernel
theorem dX6_init_81 : decode cX6_init 81 = .ok (.aload_n 0, 1) := by decide +kernel
theorem dX6_init_82 : decode cX6_init 82 = .ok (.aload_n 1, 1) := by decide +kernel
theorem dX6_init_83 : decode cX6_init 83 = .ok (.putfield 45, 3) := by decide +kernel
theorem dX6_init_86 : decode cX6_init 86 = .ok (.aload_n 0, 1) := by decide +kernel
theorem dX6_init_87 : decode cX6_init 87 = .ok (.iload_n 2, 1) := by decide +kernel
theorem dX6_init_88 : decode cX6_init 88 = .ok (.putfield 48, 3) := by decide +kernel
theorem dX6_init_91 : decode cX6_init 91 = .ok (.return_, 1) := by decide +kernel
theorem dX6_draw_0 : decode cX6_draw 0 = .ok (.aload_n 0, 1) := by decide +kernel
theorem dX6_draw_1 : decode cX6_draw 1 = .ok (.getfield 45, 3) := by decide +kernel
theorem dX6_draw_4 : decode cX6_draw 4 = .ok (.aload_n 0, 1) := by decide +kernel
theorem dX6_draw_5 : decode cX6_draw 5 = .ok (.getfield 48, 3) := by decide +kernel
theorem dX6_draw_8 : decode cX6_draw 8 = .ok (.bipush 24, 2) := by decide +kernel
theorem dX6_draw_10 : decode cX6_draw 10 = .ok (.irem, 1) := by decide +kernel
theorem dX6_draw_11 : decode cX6_draw 11 = .ok (.invokestatic 51, 3) := by decide +kernel
theorem dX6_draw_14 : decode cX6_draw 14 = .ok (.aload_n 0, 1) := by decide +kernel
theorem dX6_draw_15 : decode cX6_draw 15 = .ok (.getfield 48, 3) := by decide +kernel
theorem dX6_draw_18 : decode cX6_draw 18 = .ok (.bipush 24, 2) := by decide +kernel
theorem dX6_draw_20 : decode cX6_draw 20 = .ok (.idiv, 1) := by decide +kernel
theorem dX6_draw_21 : decode cX6_draw 21 = .ok (.bipush 8, 2) := by decide +kernel
theorem dX6_draw_23 : decode cX6_draw 23 = .ok (.irem, 1) := by decide +kernel
theorem dX6_draw_24 : decode cX6_draw 24 = .ok (.ishr, 1) := by decide +kernel
theorem dX6_draw_25 : decode cX6_draw 25 = .ok (.sipush 317, 3) := by decide +kernel
theorem dX6_draw_28 : decode cX6_draw 28 = .ok (.aload_n 0, 1) := by decide +kernel
theorem dX6_draw_29 : decode cX6_draw 29 = .ok (.getfield 48, 3) := by decide +kernel
theorem dX6_draw_32 : decode cX6_draw 32 = .ok (.imul, 1) := by decide +kernel
theorem dX6_draw_33 : decode cX6_draw 33 = .ok (.iadd, 1) := by decide +kernel
theorem dX6_draw_34 : decode cX6_draw 34 = .ok (.iload_n 1, 1) := by decide +kernel
theorem dX6_draw_35 : decode cX6_draw 35 = .ok (.invokestatic 57, 3) := by decide +kernel
theorem dX6_draw_38 : decode cX6_draw 38 = .ok (.istore_n 2, 1) := by decide +kernel
theorem dX6_draw_39 : decode cX6_draw 39 = .ok (.aload_n 0, 1) := by decide +kernel
theorem dX6_draw_40 : decode cX6_draw 40 = .ok (.dup, 1) := by decide +kernel
theorem dX6_draw_41 : decode cX6_draw 41 = .ok (.getfield 48, 3) := by decide +kernel
theorem dX6_draw_44 : decode cX6_draw 44 = .ok (.iconst 1, 1) := by decide +kernel
theorem dX6_draw_45 : decode cX6_draw 45 = .ok (.iadd, 1) := by decide +kernel
theorem dX6_draw_46 : decode cX6_draw 46 = .ok (.putfield 48, 3) := by decide +kernel
theorem dX6_draw_49 : decode cX6_draw 49 = .ok (.iload_n 2, 1) := by decide +kernel
theorem dX6_draw_50 : decode cX6_draw 50 = .ok (.ireturn, 1) := by decide +kernel
theorem dX6_owner_0 : decode cX6_owner 0 = .ok (.bipush 11, 2) := by decide +kernel
theorem dX6_owner_2 : decode cX6_owner 2 = .ok (.newarray .int, 2) := by decide +kernel
theorem dX6_owner_4 : decode cX6_owner 4 = .ok (.dup, 1) := by decide +kernel
theorem dX6_owner_5 : decode cX6_owner 5 = .ok (.iconst 0, 1) := by decide +kernel
theorem dX6_owner_6 : decode cX6_owner 6 = .ok (.iload_n 1, 1) := by decide +kernel
theorem dX6_owner_7 : decode cX6_owner 7 = .ok (.iastore, 1) := by decide +kernel
theorem dX6_owner_8 : decode cX6_owner 8 = .ok (.dup, 1) := by decide +kernel
theorem dX6_owner_9 : decode cX6_owner 9 = .ok (.iconst 1, 1) := by decide +kernel
theorem dX6_owner_10 : decode cX6_owner 10 = .ok (.iload_n 2, 1) := by decide +kernel
theorem dX6_owner_11 : decode cX6_owner 11 = .ok (.iastore, 1) := by decide +kernel
theorem dX6_owner_12 : decode cX6_owner 12 = .ok (.dup, 1) := by decide +kernel
theorem dX6_owner_13 : decode cX6_owner 13 = .ok (.iconst 2, 1) := by decide +kernel
theorem dX6_owner_14 : decode cX6_owner 14 = .ok (.iload_n 3, 1) := by decide +kernel
theorem dX6_owner_15 : decode cX6_owner 15 = .ok (.iastore, 1) := by decide +kernel
theorem dX6_owner_16 : decode cX6_owner 16 = .ok (.dup, 1) := by decide +kernel
theorem dX6_owner_17 : decode cX6_owner 17 = .ok (.iconst 3, 1) := by decide +kernel
theorem dX6_owner_18 : decode cX6_owner 18 = .ok (.iload 4, 2) := by decide +kernel
theorem dX6_owner_20 : decode cX6_owner 20 = .ok (.iastore, 1) := by decide +kernel
theorem dX6_owner_21 : decode cX6_owner 21 = .ok (.dup, 1) := by decide +kernel
theorem dX6_owner_22 : decode cX6_owner 22 = .ok (.iconst 4, 1) := by decide +kernel
theorem dX6_owner_23 : decode cX6_owner 23 = .ok (.bipush 50, 2) := by decide +kernel
theorem dX6_owner_25 : decode cX6_owner 25 = .ok (.iastore, 1) := by decide +kernel
theorem dX6_owner_26 : decode cX6_owner 26 = .ok (.dup, 1) := by decide +kernel
theorem dX6_owner_27 : decode cX6_owner 27 = .ok (.iconst 5, 1) := by decide +kernel
theorem dX6_owner_28 : decode cX6_owner 28 = .ok (.iconst 0, 1) := by decide +kernel
theorem dX6_owner_29 : decode cX6_owner 29 = .ok (.iastore, 1) := by decide +kernel
theorem dX6_owner_30 : decode cX6_owner 30 = .ok (.dup, 1) := by decide +kernel
theorem dX6_owner_31 : decode cX6_owner 31 = .ok (.bipush 6, 2) := by decide +kernel
theorem dX6_owner_33 : decode cX6_owner 33 = .ok (.iconst 0, 1) := by decide +kernel
theorem dX6_owner_34 : decode cX6_owner 34 = .ok (.iastore, 1) := by decide +kernel
theorem dX6_owner_35 : decode cX6_owner 35 = .ok (.dup, 1) := by decide +kernel
theorem dX6_owner_36 : decode cX6_owner 36 = .ok (.bipush 7, 2) := by decide +kernel
theorem dX6_owner_38 : decode cX6_owner 38 = .ok (.iconst 0, 1) := by decide +kernel
theorem dX6_owner_39 : decode cX6_owner 39 = .ok (.iastore, 1) := by decide +kernel
theorem dX6_owner_40 : decode cX6_owner 40 = .ok (.dup, 1) := by decide +kernel
theorem dX6_owner_41 : decode cX6_owner 41 = .ok (.bipush 8, 2) := by decide +kernel
theorem dX6_owner_43 : decode cX6_owner 43 = .ok (.iconst 0, 1) := by decide +kernel
theorem dX6_owner_44 : decode cX6_owner 44 = .ok (.iastore, 1) := by decide +kernel
theorem dX6_owner_45 : decode cX6_owner 45 = .ok (.dup, 1) := by decide +kernel
theorem dX6_owner_46 : decode cX6_owner 46 = .ok (.bipush 9, 2) := by decide +kernel
theorem dX6_owner_48 : decode cX6_owner 48 = .ok (.iconst 0, 1) := by decide +kernel
theorem dX6_owner_49 : decode cX6_owner 49 = .ok (.iastore, 1) := by decide +kernel
theorem dX6_owner_50 : decode cX6_owner 50 = .ok (.dup, 1) := by decide +kernel
theorem dX6_owner_51 : decode cX6_owner 51 = .ok (.bipush 10, 2) := by decide +kernel
theorem dX6_owner_53 : decode cX6_owner 53 = .ok (.iconst 0, 1) := by decide +kernel
theorem dX6_owner_54 : decode cX6_owner 54 = .ok (.iastore, 1) := by decide +kernel
theorem dX6_owner_55 : decode cX6_owner 55 = .ok (.astore 5, 2) := by decide +kernel
theorem dX6_owner_57 : decode cX6_owner 57 = .ok (.aload_n 0, 1) := by decide +kernel
theorem dX6_owner_58 : decode cX6_owner 58 = .ok (.getfield 18, 3) := by decide +kernel
theorem dX6_owner_61 : decode cX6_owner 61 = .ok (.aload_n 0, 1) := by decide +kernel
theorem dX6_owner_62 : decode cX6_owner 62 = .ok (.getfield 67, 3) := by decide +kernel
theorem dX6_owner_65 : decode cX6_owner 65 = .ok (.aload 5, 2) := by decide +kernel
theorem dX6_owner_67 : decode cX6_owner 67 = .ok (.aastore, 1) := by decide +kernel
theorem dX6_owner_68 : decode cX6_owner 68 = .ok (.aload_n 0, 1) := by decide +kernel
theorem dX6_owner_69 : decode cX6_owner 69 = .ok (.getfield 21, 3) := by decide +kernel
theorem dX6_owner_72 : decode cX6_owner 72 = .ok (.arraylength, 1) := by decide +kernel
theorem dX6_owner_73 : decode cX6_owner 73 = .ok (.iconst 1, 1) := by decide +kernel
theorem dX6_owner_74 : decode cX6_owner 74 = .ok (.iadd, 1) := by decide +kernel
theorem dX6_owner_75 : decode cX6_owner 75 = .ok (.newarray .int, 2) := by decide +kernel
theorem dX6_owner_77 : decode cX6_owner 77 = .ok (.astore 6, 2) := by decide +kernel
theorem dX6_owner_79 : decode cX6_owner 79 = .ok (.aload_n 0, 1) := by decide +kernel
theorem dX6_owner_80 : decode cX6_owner 80 = .ok (.getfield 21, 3) := by decide +kernel
theorem dX6_owner_83 : decode cX6_owner 83 = .ok (.iconst 0, 1) := by decide +kernel
theorem dX6_owner_84 : decode cX6_owner 84 = .ok (.aload 6, 2) := by decide +kernel
theorem dX6_owner_86 : decode cX6_owner 86 = .ok (.iconst 0, 1) := by decide +kernel
theorem dX6_owner_87 : decode cX6_owner 87 = .ok (.aload_n 0, 1) := by decide +kernel
theorem dX6_owner_88 : decode cX6_owner 88 = .ok (.getfield 21, 3) := by decide +kernel
theorem dX6_owner_91 : decode cX6_owner 91 = .ok (.arraylength, 1) := by decide +kernel
theorem dX6_owner_92 : decode cX6_owner 92 = .ok (.invokestatic 61, 3) := by decide +kernel
theorem dX6_owner_95 : decode cX6_owner 95 = .ok (.aload 6, 2) := by decide +kernel
theorem dX6_owner_97 : decode cX6_owner 97 = .ok (.aload_n 0, 1) := by decide +kernel
theorem dX6_owner_98 : decode cX6_owner 98 = .ok (.getfield 21, 3) := by decide +kernel
theorem dX6_owner_101 : decode cX6_owner 101 = .ok (.arraylength, 1) := by decide +kernel
theorem dX6_owner_102 : decode cX6_owner 102 = .ok (.aload_n 0, 1) := by decide +kernel
theorem dX6_owner_103 : decode cX6_owner 103 = .ok (.dup, 1) := by decide +kernel
theorem dX6_owner_104 : decode cX6_owner 104 = .ok (.getfield 67, 3) := by decide +kernel
theorem dX6_owner_107 : decode cX6_owner 107 = .ok (.dup_x1, 1) := by decide +kernel
theorem dX6_owner_108 : decode cX6_owner 108 = .ok (.iconst 1, 1) := by decide +kernel
theorem dX6_owner_109 : decode cX6_owner 109 = .ok (.iadd, 1) := by decide +kernel
theorem dX6_owner_110 : decode cX6_owner 110 = .ok (.putfield 67, 3) := by decide +kernel
theorem dX6_owner_113 : decode cX6_owner 113 = .ok (.iastore, 1) := by decide +kernel
theorem dX6_owner_114 : decode cX6_owner 114 = .ok (.aload_n 0, 1) := by decide +kernel
theorem dX6_owner_115 : decode cX6_owner 115 = .ok (.aload 6, 2) := by decide +kernel
theorem dX6_owner_117 : decode cX6_owner 117 = .ok (.putfield 21, 3) := by decide +kernel
theorem dX6_owner_120 : decode cX6_owner 120 = .ok (.aload_n 0, 1) := by decide +kernel
theorem dX6_owner_121 : decode cX6_owner 121 = .ok (.getfield 10, 3) := by decide +kernel
theorem dX6_owner_124 : decode cX6_owner 124 = .ok (.iload_n 1, 1) := by decide +kernel
theorem dX6_owner_125 : decode cX6_owner 125 = .ok (.iload_n 2, 1) := by decide +kernel
theorem dX6_owner_126 : decode cX6_owner 126 = .ok (.iload_n 3, 1) := by decide +kernel
theorem dX6_owner_127 : decode cX6_owner 127 = .ok (.iload 4, 2) := by decide +kernel
theorem dX6_owner_129 : decode cX6_owner 129 = .ok (.invokevirtual 70, 3) := by decide +kernel
theorem dX6_owner_132 : decode cX6_owner 132 = .ok (.aload_n 0, 1) := by decide +kernel
theorem dX6_owner_133 : decode cX6_owner 133 = .ok (.getfield 67, 3) := by decide +kernel
theorem dX6_owner_136 : decode cX6_owner 136 = .ok (.iconst 1, 1) := by decide +kernel
theorem dX6_owner_137 : decode cX6_owner 137 = .ok (.isub, 1) := by decide +kernel
theorem dX6_owner_138 : decode cX6_owner 138 = .ok (.if_icmp .ne 7, 3) := by decide +kernel
theorem dX6_owner_141 : decode cX6_owner 141 = .ok (.iconst 1, 1) := by decide +kernel
theorem dX6_owner_142 : decode cX6_owner 142 = .ok (.goto 4, 3) := by decide +kernel
theorem dX6_owner_145 : decode cX6_owner 145 = .ok (.iconst 0, 1) := by decide +kernel
theorem dX6_owner_146 : decode cX6_owner 146 = .ok (.ireturn, 1) := by decide +kernel
theorem dX6_found_0 : decode cX6_found 0 = .ok (.iconst 0, 1) := by decide +kernel
theorem dX6_found_1 : decode cX6_found 1 = .ok (.istore_n 2, 1) := by decide +kernel
theorem dX6_found_2 : decode cX6_found 2 = .ok (.iload_n 2, 1) := by decide +kernel
theorem dX6_found_3 : decode cX6_found 3 = .ok (.iload_n 1, 1) := by decide +kernel
theorem dX6_found_4 : decode cX6_found 4 = .ok (.if_icmp .ge 46, 3) := by decide +kernel
theorem dX6_found_7 : decode cX6_found 7 = .ok (.aload_n 0, 1) := by decide +kernel
theorem dX6_found_8 : decode cX6_found 8 = .ok (.bipush 100, 2) := by decide +kernel
theorem dX6_found_10 : decode cX6_found 10 = .ok (.aload_n 0, 1) := by decide +kernel
theorem dX6_found_11 : decode cX6_found 11 = .ok (.sipush 1000, 3) := by decide +kernel
theorem dX6_found_14 : decode cX6_found 14 = .ok (.invokevirtual 110, 3) := by decide +kernel
theorem dX6_found_17 : decode cX6_found 17 = .ok (.iadd, 1) := by decide +kernel
theorem dX6_found_18 : decode cX6_found 18 = .ok (.aload_n 0, 1) := by decide +kernel
theorem dX6_found_19 : decode cX6_found 19 = .ok (.sipush 200, 3) := by decide +kernel
theorem dX6_found_22 : decode cX6_found 22 = .ok (.invokevirtual 110, 3) := by decide +kernel
theorem dX6_found_25 : decode cX6_found 25 = .ok (.aload_n 0, 1) := by decide +kernel
theorem dX6_found_26 : decode cX6_found 26 = .ok (.bipush 40, 2) := by decide +kernel
theorem dX6_found_28 : decode cX6_found 28 = .ok (.invokevirtual 110, 3) := by decide +kernel
theorem dX6_found_31 : decode cX6_found 31 = .ok (.aload_n 0, 1) := by decide +kernel
theorem dX6_found_32 : decode cX6_found 32 = .ok (.iconst 4, 1) := by decide +kernel
theorem dX6_found_33 : decode cX6_found 33 = .ok (.invokevirtual 110, 3) := by decide +kernel
theorem dX6_found_36 : decode cX6_found 36 = .ok (.invokevirtual 113, 3) := by decide +kernel
theorem dX6_found_39 : decode cX6_found 39 = .ok (.ifCond .ne 5, 3) := by decide +kernel
theorem dX6_found_42 : decode cX6_found 42 = .ok (.iconst 0, 1) := by decide +kernel
theorem dX6_found_43 : decode cX6_found 43 = .ok (.ireturn, 1) := by decide +kernel
theorem dX6_found_44 : decode cX6_found 44 = .ok (.iinc 2 1, 3) := by decide +kernel
theorem dX6_found_47 : decode cX6_found 47 = .ok (.goto (-45), 3) := by decide +kernel
theorem dX6_found_50 : decode cX6_found 50 = .ok (.iconst 1, 1) := by decide +kernel
theorem dX6_found_51 : decode cX6_found 51 = .ok (.ireturn, 1) := by decide +kernel
theorem dL_below_0 : decode cL_below 0 = .ok (.iload_n 0, 1) := by decide +kernel
theorem dL_below_1 : decode cL_below 1 = .ok (.ldc 7, 2) := by decide +kernel
theorem dL_below_3 : decode cL_below 3 = .ok (.iand, 1) := by decide +kernel
theorem dL_below_4 : decode cL_below 4 = .ok (.iload_n 1, 1) := by decide +kernel
theorem dL_below_5 : decode cL_below 5 = .ok (.irem, 1) := by decide +kernel
theorem dL_below_6 : decode cL_below 6 = .ok (.ireturn, 1) := by decide +kernel
theorem dL_cell_0 : decode cL_cell 0 = .ok (.iload_n 1, 1) := by decide +kernel
theorem dL_cell_1 : decode cL_cell 1 = .ok (.aload_n 0, 1) := by decide +kernel
theorem dL_cell_2 : decode cL_cell 2 = .ok (.arraylength, 1) := by decide +kernel
theorem dL_cell_3 : decode cL_cell 3 = .ok (.if_icmp .ge 9, 3) := by decide +kernel
theorem dL_cell_6 : decode cL_cell 6 = .ok (.aload_n 0, 1) := by decide +kernel
theorem dL_cell_7 : decode cL_cell 7 = .ok (.iload_n 1, 1) := by decide +kernel
theorem dL_cell_8 : decode cL_cell 8 = .ok (.iaload, 1) := by decide +kernel
theorem dL_cell_9 : decode cL_cell 9 = .ok (.goto 9, 3) := by decide +kernel
theorem dL_cell_12 : decode cL_cell 12 = .ok (.ldc 8, 2) := by decide +kernel
theorem dL_cell_14 : decode cL_cell 14 = .ok (.iload_n 1, 1) := by decide +kernel
theorem dL_cell_15 : decode cL_cell 15 = .ok (.iconst 3, 1) := by decide +kernel
theorem dL_cell_16 : decode cL_cell 16 = .ok (.iadd, 1) := by decide +kernel
theorem dL_cell_17 : decode cL_cell 17 = .ok (.imul, 1) := by decide +kernel
theorem dL_cell_18 : decode cL_cell 18 = .ok (.ireturn, 1) := by decide +kernel
theorem dL_law_0 : decode cL_law 0 = .ok (.iconst 0, 1) := by decide +kernel
theorem dL_law_1 : decode cL_law 1 = .ok (.istore_n 1, 1) := by decide +kernel
theorem dL_law_2 : decode cL_law 2 = .ok (.iload_n 1, 1) := by decide +kernel
theorem dL_law_3 : decode cL_law 3 = .ok (.iconst 3, 1) := by decide +kernel
theorem dL_law_4 : decode cL_law 4 = .ok (.if_icmp .ge 692, 3) := by decide +kernel
theorem dL_law_7 : decode cL_law 7 = .ok (.new 9, 3) := by decide +kernel
theorem dL_law_10 : decode cL_law 10 = .ok (.dup, 1) := by decide +kernel
theorem dL_law_11 : decode cL_law 11 = .ok (.aload_n 0, 1) := by decide +kernel
theorem dL_law_12 : decode cL_law 12 = .ok (.bipush 31, 2) := by decide +kernel
theorem dL_law_14 : decode cL_law 14 = .ok (.iload_n 1, 1) := by decide +kernel
theorem dL_law_15 : decode cL_law 15 = .ok (.imul, 1) := by decide +kernel
theorem dL_law_16 : decode cL_law 16 = .ok (.bipush 7, 2) := by decide +kernel
theorem dL_law_18 : decode cL_law 18 = .ok (.iadd, 1) := by decide +kernel
theorem dL_law_19 : decode cL_law 19 = .ok (.invokespecial 11, 3) := by decide +kernel
theorem dL_law_22 : decode cL_law 22 = .ok (.astore_n 2, 1) := by decide +kernel
theorem dL_law_23 : decode cL_law 23 = .ok (.new 9, 3) := by decide +kernel
theorem dL_law_26 : decode cL_law 26 = .ok (.dup, 1) := by decide +kernel
theorem dL_law_27 : decode cL_law 27 = .ok (.aload_n 0, 1) := by decide +kernel
theorem dL_law_28 : decode cL_law 28 = .ok (.bipush 31, 2) := by decide +kernel
theorem dL_law_30 : decode cL_law 30 = .ok (.iload_n 1, 1) := by decide +kernel
theorem dL_law_31 : decode cL_law 31 = .ok (.imul, 1) := by decide +kernel
theorem dL_law_32 : decode cL_law 32 = .ok (.bipush 7, 2) := by decide +kernel
theorem dL_law_34 : decode cL_law 34 = .ok (.iadd, 1) := by decide +kernel
theorem dL_law_35 : decode cL_law 35 = .ok (.invokespecial 11, 3) := by decide +kernel
theorem dL_law_38 : decode cL_law 38 = .ok (.astore_n 3, 1) := by decide +kernel
theorem dL_law_39 : decode cL_law 39 = .ok (.aload_n 2, 1) := by decide +kernel
theorem dL_law_40 : decode cL_law 40 = .ok (.getfield 14, 3) := by decide +kernel
theorem dL_law_43 : decode cL_law 43 = .ok (.astore 4, 2) := by decide +kernel
theorem dL_law_45 : decode cL_law 45 = .ok (.aload_n 2, 1) := by decide +kernel
theorem dL_law_46 : decode cL_law 46 = .ok (.iconst 4, 1) := by decide +kernel
theorem dL_law_47 : decode cL_law 47 = .ok (.invokevirtual 18, 3) := by decide +kernel
theorem dL_law_50 : decode cL_law 50 = .ok (.ifCond .eq 11, 3) := by decide +kernel
theorem dL_law_53 : decode cL_law 53 = .ok (.aload_n 3, 1) := by decide +kernel
theorem dL_law_54 : decode cL_law 54 = .ok (.iconst 4, 1) := by decide +kernel
theorem dL_law_55 : decode cL_law 55 = .ok (.invokevirtual 18, 3) := by decide +kernel
theorem dL_law_58 : decode cL_law 58 = .ok (.ifCond .ne 5, 3) := by decide +kernel
theorem dL_law_61 : decode cL_law 61 = .ok (.iconst 0, 1) := by decide +kernel
theorem dL_law_62 : decode cL_law 62 = .ok (.ireturn, 1) := by decide +kernel
theorem dL_law_63 : decode cL_law 63 = .ok (.iconst 0, 1) := by decide +kernel
theorem dL_law_64 : decode cL_law 64 = .ok (.istore 5, 2) := by decide +kernel
theorem dL_law_66 : decode cL_law 66 = .ok (.iload 5, 2) := by decide +kernel
theorem dL_law_68 : decode cL_law 68 = .ok (.bipush 7, 2) := by decide +kernel
theorem dL_law_70 : decode cL_law 70 = .ok (.if_icmp .ge 418, 3) := by decide +kernel
theorem dL_law_73 : decode cL_law 73 = .ok (.aload_n 2, 1) := by decide +kernel
theorem dL_law_74 : decode cL_law 74 = .ok (.iconst 4, 1) := by decide +kernel
theorem dL_law_75 : decode cL_law 75 = .ok (.invokevirtual 22, 3) := by decide +kernel
theorem dL_law_78 : decode cL_law 78 = .ok (.istore 6, 2) := by decide +kernel
theorem dL_law_80 : decode cL_law 80 = .ok (.iload 6, 2) := by decide +kernel
theorem dL_law_82 : decode cL_law 82 = .ok (.iconst 1, 1) := by decide +kernel
theorem dL_law_83 : decode cL_law 83 = .ok (.iadd, 1) := by decide +kernel
theorem dL_law_84 : decode cL_law 84 = .ok (.aload_n 2, 1) := by decide +kernel
theorem dL_law_85 : decode cL_law 85 = .ok (.iconst 3, 1) := by decide +kernel
theorem dL_law_86 : decode cL_law 86 = .ok (.invokevirtual 22, 3) := by decide +kernel
theorem dL_law_89 : decode cL_law 89 = .ok (.iadd, 1) := by decide +kernel
theorem dL_law_90 : decode cL_law 90 = .ok (.iconst 4, 1) := by decide +kernel
theorem dL_law_91 : decode cL_law 91 = .ok (.irem, 1) := by decide +kernel
theorem dL_law_92 : decode cL_law 92 = .ok (.istore 7, 2) := by decide +kernel
theorem dL_law_94 : decode cL_law 94 = .ok (.aload_n 2, 1) := by decide +kernel
theorem dL_law_95 : decode cL_law 95 = .ok (.bipush 60, 2) := by decide +kernel
theorem dL_law_97 : decode cL_law 97 = .ok (.invokevirtual 22, 3) := by decide +kernel
theorem dL_law_100 : decode cL_law 100 = .ok (.istore 8, 2) := by decide +kernel
theorem dL_law_102 : decode cL_law 102 = .ok (.iconst 1, 1) := by decide +kernel
theorem dL_law_103 : decode cL_law 103 = .ok (.aload_n 2, 1) := by decide +kernel
theorem dL_law_104 : decode cL_law 104 = .ok (.bipush 9, 2) := by decide +kernel
theorem dL_law_106 : decode cL_law 106 = .ok (.invokevirtual 22, 3) := by decide +kernel
theorem dL_law_109 : decode cL_law 109 = .ok (.iadd, 1) := by decide +kernel
theorem dL_law_110 : decode cL_law 110 = .ok (.istore 9, 2) := by decide +kernel
theorem dL_law_112 : decode cL_law 112 = .ok (.iconst 1, 1) := by decide +kernel
theorem dL_law_113 : decode cL_law 113 = .ok (.aload_n 2, 1) := by decide +kernel
theorem dL_law_114 : decode cL_law 114 = .ok (.bipush 20, 2) := by decide +kernel
theorem dL_law_116 : decode cL_law 116 = .ok (.invokevirtual 22, 3) := by decide +kernel
theorem dL_law_119 : decode cL_law 119 = .ok (.iadd, 1) := by decide +kernel
theorem dL_law_120 : decode cL_law 120 = .ok (.istore 10, 2) := by decide +kernel
theorem dL_law_122 : decode cL_law 122 = .ok (.iconst 1, 1) := by decide +kernel
theorem dL_law_123 : decode cL_law 123 = .ok (.aload_n 2, 1) := by decide +kernel
theorem dL_law_124 : decode cL_law 124 = .ok (.sipush 200, 3) := by decide +kernel
theorem dL_law_127 : decode cL_law 127 = .ok (.invokevirtual 22, 3) := by decide +kernel
theorem dL_law_130 : decode cL_law 130 = .ok (.iadd, 1) := by decide +kernel
theorem dL_law_131 : decode cL_law 131 = .ok (.istore 11, 2) := by decide +kernel
theorem dL_law_133 : decode cL_law 133 = .ok (.aload 4, 2) := by decide +kernel
theorem dL_law_135 : decode cL_law 135 = .ok (.iload 6, 2) := by decide +kernel
theorem dL_law_137 : decode cL_law 137 = .ok (.iload 10, 2) := by decide +kernel
theorem dL_law_139 : decode cL_law 139 = .ok (.invokevirtual 26, 3) := by decide +kernel
theorem dL_law_142 : decode cL_law 142 = .ok (.aload_n 3, 1) := by decide +kernel
theorem dL_law_143 : decode cL_law 143 = .ok (.getfield 14, 3) := by decide +kernel
theorem dL_law_146 : decode cL_law 146 = .ok (.iload 6, 2) := by decide +kernel
theorem dL_law_148 : decode cL_law 148 = .ok (.iload 10, 2) := by decide +kernel
theorem dL_law_150 : decode cL_law 150 = .ok (.invokevirtual 26, 3) := by decide +kernel
theorem dL_law_153 : decode cL_law 153 = .ok (.if_icmp .ne 73, 3) := by decide +kernel
theorem dL_law_156 : decode cL_law 156 = .ok (.aload 4, 2) := by decide +kernel
theorem dL_law_158 : decode cL_law 158 = .ok (.iload 6, 2) := by decide +kernel
theorem dL_law_160 : decode cL_law 160 = .ok (.iload 7, 2) := by decide +kernel
theorem dL_law_162 : decode cL_law 162 = .ok (.iload 11, 2) := by decide +kernel
theorem dL_law_164 : decode cL_law 164 = .ok (.iconst 0, 1) := by decide +kernel
theorem dL_law_165 : decode cL_law 165 = .ok (.invokevirtual 32, 3) := by decide +kernel
theorem dL_law_168 : decode cL_law 168 = .ok (.aload_n 3, 1) := by decide +kernel
theorem dL_law_169 : decode cL_law 169 = .ok (.getfield 14, 3) := by decide +kernel
theorem dL_law_172 : decode cL_law 172 = .ok (.iload 6, 2) := by decide +kernel
theorem dL_law_174 : decode cL_law 174 = .ok (.iload 7, 2) := by decide +kernel
theorem dL_law_176 : decode cL_law 176 = .ok (.iload 11, 2) := by decide +kernel
theorem dL_law_178 : decode cL_law 178 = .ok (.iconst 0, 1) := by decide +kernel
theorem dL_law_179 : decode cL_law 179 = .ok (.invokevirtual 32, 3) := by decide +kernel
theorem dL_law_182 : decode cL_law 182 = .ok (.if_icmp .ne 44, 3) := by decide +kernel
theorem dL_law_185 : decode cL_law 185 = .ok (.aload 4, 2) := by decide +kernel
theorem dL_law_187 : decode cL_law 187 = .ok (.bipush 10, 2) := by decide +kernel
theorem dL_law_189 : decode cL_law 189 = .ok (.invokevirtual 36, 3) := by decide +kernel
theorem dL_law_192 : decode cL_law 192 = .ok (.bipush 8, 2) := by decide +kernel
theorem dL_law_194 : decode cL_law 194 = .ok (.if_icmp .ge 34, 3) := by decide +kernel
theorem dL_law_197 : decode cL_law 197 = .ok (.aload 4, 2) := by decide +kernel
theorem dL_law_199 : decode cL_law 199 = .ok (.iload 7, 2) := by decide +kernel
theorem dL_law_201 : decode cL_law 201 = .ok (.iload 6, 2) := by decide +kernel
theorem dL_law_203 : decode cL_law 203 = .ok (.iload 11, 2) := by decide +kernel
theorem dL_law_205 : decode cL_law 205 = .ok (.iconst 2, 1) := by decide +kernel
theorem dL_law_206 : decode cL_law 206 = .ok (.invokevirtual 39, 3) := by decide +kernel
theorem dL_law_209 : decode cL_law 209 = .ok (.aload_n 3, 1) := by decide +kernel
theorem dL_law_210 : decode cL_law 210 = .ok (.getfield 14, 3) := by decide +kernel
theorem dL_law_213 : decode cL_law 213 = .ok (.iload 7, 2) := by decide +kernel
theorem dL_law_215 : decode cL_law 215 = .ok (.iload 6, 2) := by decide +kernel
theorem dL_law_217 : decode cL_law 217 = .ok (.iload 11, 2) := by decide +kernel
theorem dL_law_219 : decode cL_law 219 = .ok (.iconst 2, 1) := by decide +kernel
theorem dL_law_220 : decode cL_law 220 = .ok (.invokevirtual 39, 3) := by decide +kernel
theorem dL_law_223 : decode cL_law 223 = .ok (.if_icmp .eq 5, 3) := by decide +kernel
theorem dL_law_226 : decode cL_law 226 = .ok (.iconst 0, 1) := by decide +kernel
theorem dL_law_227 : decode cL_law 227 = .ok (.ireturn, 1) := by decide +kernel
theorem dL_law_228 : decode cL_law 228 = .ok (.aload 4, 2) := by decide +kernel
theorem dL_law_230 : decode cL_law 230 = .ok (.invokevirtual 42, 3) := by decide +kernel
theorem dL_law_233 : decode cL_law 233 = .ok (.lstore 12, 2) := by decide +kernel
theorem dL_law_235 : decode cL_law 235 = .ok (.aload 4, 2) := by decide +kernel
theorem dL_law_237 : decode cL_law 237 = .ok (.iload 6, 2) := by decide +kernel
theorem dL_law_239 : decode cL_law 239 = .ok (.iload 8, 2) := by decide +kernel
theorem dL_law_241 : decode cL_law 241 = .ok (.iload 9, 2) := by decide +kernel
theorem dL_law_243 : decode cL_law 243 = .ok (.invokevirtual 46, 3) := by decide +kernel
theorem dL_law_246 : decode cL_law 246 = .ok (.istore 14, 2) := by decide +kernel
theorem dL_law_248 : decode cL_law 248 = .ok (.aload 4, 2) := by decide +kernel
theorem dL_law_250 : decode cL_law 250 = .ok (.iload 8, 2) := by decide +kernel
theorem dL_law_252 : decode cL_law 252 = .ok (.iload 9, 2) := by decide +kernel
theorem dL_law_254 : decode cL_law 254 = .ok (.invokevirtual 50, 3) := by decide +kernel
theorem dL_law_257 : decode cL_law 257 = .ok (.istore 15, 2) := by decide +kernel
theorem dL_law_259 : decode cL_law 259 = .ok (.aload_n 2, 1) := by decide +kernel
theorem dL_law_260 : decode cL_law 260 = .ok (.bipush 21, 2) := by decide +kernel
theorem dL_law_262 : decode cL_law 262 = .ok (.invokevirtual 22, 3) := by decide +kernel
theorem dL_law_265 : decode cL_law 265 = .ok (.istore 16, 2) := by decide +kernel
theorem dL_law_267 : decode cL_law 267 = .ok (.aload 4, 2) := by decide +kernel
theorem dL_law_269 : decode cL_law 269 = .ok (.iload 16, 2) := by decide +kernel
theorem dL_law_271 : decode cL_law 271 = .ok (.iload 8, 2) := by decide +kernel
theorem dL_law_273 : decode cL_law 273 = .ok (.iload 9, 2) := by decide +kernel
theorem dL_law_275 : decode cL_law 275 = .ok (.invokevirtual 53, 3) := by decide +kernel
theorem dL_law_278 : decode cL_law 278 = .ok (.istore 17, 2) := by decide +kernel
theorem dL_law_280 : decode cL_law 280 = .ok (.aload 4, 2) := by decide +kernel
theorem dL_law_282 : decode cL_law 282 = .ok (.iload 6, 2) := by decide +kernel
theorem dL_law_284 : decode cL_law 284 = .ok (.iload 8, 2) := by decide +kernel
theorem dL_law_286 : decode cL_law 286 = .ok (.invokevirtual 56, 3) := by decide +kernel
theorem dL_law_289 : decode cL_law 289 = .ok (.istore 18, 2) := by decide +kernel
theorem dL_law_291 : decode cL_law 291 = .ok (.aload 4, 2) := by decide +kernel
theorem dL_law_293 : decode cL_law 293 = .ok (.invokevirtual 42, 3) := by decide +kernel
theorem dL_law_296 : decode cL_law 296 = .ok (.lload 12, 2) := by decide +kernel
theorem dL_law_298 : decode cL_law 298 = .ok (.lcmp, 1) := by decide +kernel
theorem dL_law_299 : decode cL_law 299 = .ok (.ifCond .ne 16, 3) := by decide +kernel
theorem dL_law_302 : decode cL_law 302 = .ok (.aload_n 3, 1) := by decide +kernel
theorem dL_law_303 : decode cL_law 303 = .ok (.getfield 14, 3) := by decide +kernel
theorem dL_law_306 : decode cL_law 306 = .ok (.invokevirtual 42, 3) := by decide +kernel
theorem dL_law_309 : decode cL_law 309 = .ok (.lload 12, 2) := by decide +kernel
theorem dL_law_311 : decode cL_law 311 = .ok (.lcmp, 1) := by decide +kernel
theorem dL_law_312 : decode cL_law 312 = .ok (.ifCond .eq 5, 3) := by decide +kernel
theorem dL_law_315 : decode cL_law 315 = .ok (.iconst 0, 1) := by decide +kernel
theorem dL_law_316 : decode cL_law 316 = .ok (.ireturn, 1) := by decide +kernel
theorem dL_law_317 : decode cL_law 317 = .ok (.aload_n 3, 1) := by decide +kernel
theorem dL_law_318 : decode cL_law 318 = .ok (.getfield 14, 3) := by decide +kernel
theorem dL_law_321 : decode cL_law 321 = .ok (.iload 16, 2) := by decide +kernel
theorem dL_law_323 : decode cL_law 323 = .ok (.invokevirtual 59, 3) := by decide +kernel
theorem dL_law_326 : decode cL_law 326 = .ok (.istore 19, 2) := by decide +kernel
theorem dL_law_328 : decode cL_law 328 = .ok (.aload_n 3, 1) := by decide +kernel
theorem dL_law_329 : decode cL_law 329 = .ok (.getfield 14, 3) := by decide +kernel
theorem dL_law_332 : decode cL_law 332 = .ok (.iload 8, 2) := by decide +kernel
theorem dL_law_334 : decode cL_law 334 = .ok (.iload 9, 2) := by decide +kernel
theorem dL_law_336 : decode cL_law 336 = .ok (.invokestatic 62, 3) := by decide +kernel
theorem dL_law_339 : decode cL_law 339 = .ok (.istore 20, 2) := by decide +kernel
theorem dL_law_341 : decode cL_law 341 = .ok (.aload_n 3, 1) := by decide +kernel
theorem dL_law_342 : decode cL_law 342 = .ok (.getfield 14, 3) := by decide +kernel
theorem dL_law_345 : decode cL_law 345 = .ok (.iload 19, 2) := by decide +kernel
theorem dL_law_347 : decode cL_law 347 = .ok (.invokevirtual 59, 3) := by decide +kernel
theorem dL_law_350 : decode cL_law 350 = .ok (.pop, 1) := by decide +kernel
theorem dL_law_351 : decode cL_law 351 = .ok (.aload 4, 2) := by decide +kernel
theorem dL_law_353 : decode cL_law 353 = .ok (.iload 8, 2) := by decide +kernel
theorem dL_law_355 : decode cL_law 355 = .ok (.iload 9, 2) := by decide +kernel
theorem dL_law_357 : decode cL_law 357 = .ok (.invokestatic 62, 3) := by decide +kernel
theorem dL_law_360 : decode cL_law 360 = .ok (.iload 20, 2) := by decide +kernel
theorem dL_law_362 : decode cL_law 362 = .ok (.isub, 1) := by decide +kernel
theorem dL_law_363 : decode cL_law 363 = .ok (.iload 17, 2) := by decide +kernel
theorem dL_law_365 : decode cL_law 365 = .ok (.if_icmp .eq 5, 3) := by decide +kernel
theorem dL_law_368 : decode cL_law 368 = .ok (.iconst 0, 1) := by decide +kernel
theorem dL_law_369 : decode cL_law 369 = .ok (.ireturn, 1) := by decide +kernel
theorem dL_law_370 : decode cL_law 370 = .ok (.aload 4, 2) := by decide +kernel
theorem dL_law_372 : decode cL_law 372 = .ok (.iload 6, 2) := by decide +kernel
theorem dL_law_374 : decode cL_law 374 = .ok (.bipush 13, 2) := by decide +kernel
theorem dL_law_376 : decode cL_law 376 = .ok (.invokevirtual 68, 3) := by decide +kernel
theorem dL_law_379 : decode cL_law 379 = .ok (.istore 21, 2) := by decide +kernel
theorem dL_law_381 : decode cL_law 381 = .ok (.aload 4, 2) := by decide +kernel
theorem dL_law_383 : decode cL_law 383 = .ok (.iload 8, 2) := by decide +kernel
theorem dL_law_385 : decode cL_law 385 = .ok (.iload 9, 2) := by decide +kernel
theorem dL_law_387 : decode cL_law 387 = .ok (.invokevirtual 71, 3) := by decide +kernel
theorem dL_law_390 : decode cL_law 390 = .ok (.istore 22, 2) := by decide +kernel
theorem dL_law_392 : decode cL_law 392 = .ok (.iconst 0, 1) := by decide +kernel
theorem dL_law_393 : decode cL_law 393 = .ok (.istore 23, 2) := by decide +kernel
theorem dL_law_395 : decode cL_law 395 = .ok (.iconst 0, 1) := by decide +kernel
theorem dL_law_396 : decode cL_law 396 = .ok (.istore 24, 2) := by decide +kernel
theorem dL_law_398 : decode cL_law 398 = .ok (.iload 24, 2) := by decide +kernel
theorem dL_law_400 : decode cL_law 400 = .ok (.iload 9, 2) := by decide +kernel
theorem dL_law_402 : decode cL_law 402 = .ok (.if_icmp .ge 24, 3) := by decide +kernel
theorem dL_law_405 : decode cL_law 405 = .ok (.iload 23, 2) := by decide +kernel
theorem dL_law_407 : decode cL_law 407 = .ok (.aload_n 3, 1) := by decide +kernel
theorem dL_law_408 : decode cL_law 408 = .ok (.getfield 14, 3) := by decide +kernel
theorem dL_law_411 : decode cL_law 411 = .ok (.iload 8, 2) := by decide +kernel
theorem dL_law_413 : decode cL_law 413 = .ok (.iconst 1, 1) := by decide +kernel
theorem dL_law_414 : decode cL_law 414 = .ok (.invokevirtual 71, 3) := by decide +kernel
theorem dL_law_417 : decode cL_law 417 = .ok (.iadd, 1) := by decide +kernel
theorem dL_law_418 : decode cL_law 418 = .ok (.istore 23, 2) := by decide +kernel
theorem dL_law_420 : decode cL_law 420 = .ok (.iinc 24 1, 3) := by decide +kernel
theorem dL_law_423 : decode cL_law 423 = .ok (.goto (-25), 3) := by decide +kernel
theorem dL_law_426 : decode cL_law 426 = .ok (.iload 22, 2) := by decide +kernel
theorem dL_law_428 : decode cL_law 428 = .ok (.iload 23, 2) := by decide +kernel
theorem dL_law_430 : decode cL_law 430 = .ok (.if_icmp .ne 36, 3) := by decide +kernel
theorem dL_law_433 : decode cL_law 433 = .ok (.aload 4, 2) := by decide +kernel
theorem dL_law_435 : decode cL_law 435 = .ok (.iload 6, 2) := by decide +kernel
theorem dL_law_437 : decode cL_law 437 = .ok (.bipush 13, 2) := by decide +kernel
theorem dL_law_439 : decode cL_law 439 = .ok (.invokevirtual 68, 3) := by decide +kernel
theorem dL_law_442 : decode cL_law 442 = .ok (.iload 21, 2) := by decide +kernel
theorem dL_law_444 : decode cL_law 444 = .ok (.iload 14, 2) := by decide +kernel
theorem dL_law_446 : decode cL_law 446 = .ok (.iadd, 1) := by decide +kernel
theorem dL_law_447 : decode cL_law 447 = .ok (.if_icmp .ne 19, 3) := by decide +kernel
theorem dL_law_450 : decode cL_law 450 = .ok (.aload 4, 2) := by decide +kernel
theorem dL_law_452 : decode cL_law 452 = .ok (.invokevirtual 42, 3) := by decide +kernel
theorem dL_law_455 : decode cL_law 455 = .ok (.aload_n 3, 1) := by decide +kernel
theorem dL_law_456 : decode cL_law 456 = .ok (.getfield 14, 3) := by decide +kernel
theorem dL_law_459 : decode cL_law 459 = .ok (.invokevirtual 42, 3) := by decide +kernel
theorem dL_law_462 : decode cL_law 462 = .ok (.lcmp, 1) := by decide +kernel
theorem dL_law_463 : decode cL_law 463 = .ok (.ifCond .eq 5, 3) := by decide +kernel
theorem dL_law_466 : decode cL_law 466 = .ok (.iconst 0, 1) := by decide +kernel
theorem dL_law_467 : decode cL_law 467 = .ok (.ireturn, 1) := by decide +kernel
theorem dL_law_468 : decode cL_law 468 = .ok (.iload 15, 2) := by decide +kernel
theorem dL_law_470 : decode cL_law 470 = .ok (.bipush 20, 2) := by decide +kernel
theorem dL_law_472 : decode cL_law 472 = .ok (.if_icmp .gt 8, 3) := by decide +kernel
theorem dL_law_475 : decode cL_law 475 = .ok (.iload 18, 2) := by decide +kernel
theorem dL_law_477 : decode cL_law 477 = .ok (.ifCond .ge 5, 3) := by decide +kernel
theorem dL_law_480 : decode cL_law 480 = .ok (.iconst 0, 1) := by decide +kernel
theorem dL_law_481 : decode cL_law 481 = .ok (.ireturn, 1) := by decide +kernel
theorem dL_law_482 : decode cL_law 482 = .ok (.iinc 5 1, 3) := by decide +kernel
theorem dL_law_485 : decode cL_law 485 = .ok (.goto (-419), 3) := by decide +kernel
theorem dL_law_488 : decode cL_law 488 = .ok (.aload_n 2, 1) := by decide +kernel
theorem dL_law_489 : decode cL_law 489 = .ok (.bipush 50, 2) := by decide +kernel
theorem dL_law_491 : decode cL_law 491 = .ok (.invokevirtual 22, 3) := by decide +kernel
theorem dL_law_494 : decode cL_law 494 = .ok (.istore 5, 2) := by decide +kernel
theorem dL_law_496 : decode cL_law 496 = .ok (.iconst 4, 1) := by decide +kernel
theorem dL_law_497 : decode cL_law 497 = .ok (.newarray .int, 2) := by decide +kernel
theorem dL_law_499 : decode cL_law 499 = .ok (.astore 6, 2) := by decide +kernel
theorem dL_law_501 : decode cL_law 501 = .ok (.iconst 4, 1) := by decide +kernel
theorem dL_law_502 : decode cL_law 502 = .ok (.newarray .int, 2) := by decide +kernel
theorem dL_law_504 : decode cL_law 504 = .ok (.astore 7, 2) := by decide +kernel
theorem dL_law_506 : decode cL_law 506 = .ok (.aload 4, 2) := by decide +kernel
theorem dL_law_508 : decode cL_law 508 = .ok (.bipush 14, 2) := by decide +kernel
theorem dL_law_510 : decode cL_law 510 = .ok (.invokevirtual 36, 3) := by decide +kernel
theorem dL_law_513 : decode cL_law 513 = .ok (.istore 8, 2) := by decide +kernel
theorem dL_law_515 : decode cL_law 515 = .ok (.iconst 0, 1) := by decide +kernel
theorem dL_law_516 : decode cL_law 516 = .ok (.istore 9, 2) := by decide +kernel
theorem dL_law_518 : decode cL_law 518 = .ok (.iconst 0, 1) := by decide +kernel
theorem dL_law_519 : decode cL_law 519 = .ok (.istore 10, 2) := by decide +kernel
theorem dL_law_521 : decode cL_law 521 = .ok (.iload 10, 2) := by decide +kernel
theorem dL_law_523 : decode cL_law 523 = .ok (.iconst 4, 1) := by decide +kernel
theorem dL_law_524 : decode cL_law 524 = .ok (.if_icmp .ge 47, 3) := by decide +kernel
theorem dL_law_527 : decode cL_law 527 = .ok (.aload 6, 2) := by decide +kernel
theorem dL_law_529 : decode cL_law 529 = .ok (.iload 10, 2) := by decide +kernel
theorem dL_law_531 : decode cL_law 531 = .ok (.aload 4, 2) := by decide +kernel
theorem dL_law_533 : decode cL_law 533 = .ok (.iload 10, 2) := by decide +kernel
theorem dL_law_535 : decode cL_law 535 = .ok (.iload 5, 2) := by decide +kernel
theorem dL_law_537 : decode cL_law 537 = .ok (.invokevirtual 56, 3) := by decide +kernel
theorem dL_law_540 : decode cL_law 540 = .ok (.iastore, 1) := by decide +kernel
theorem dL_law_541 : decode cL_law 541 = .ok (.aload 7, 2) := by decide +kernel
theorem dL_law_543 : decode cL_law 543 = .ok (.iload 10, 2) := by decide +kernel
theorem dL_law_545 : decode cL_law 545 = .ok (.aload 4, 2) := by decide +kernel
theorem dL_law_547 : decode cL_law 547 = .ok (.iload 10, 2) := by decide +kernel
theorem dL_law_549 : decode cL_law 549 = .ok (.bipush 6, 2) := by decide +kernel
theorem dL_law_551 : decode cL_law 551 = .ok (.invokevirtual 68, 3) := by decide +kernel
theorem dL_law_554 : decode cL_law 554 = .ok (.iastore, 1) := by decide +kernel
theorem dL_law_555 : decode cL_law 555 = .ok (.iload 9, 2) := by decide +kernel
theorem dL_law_557 : decode cL_law 557 = .ok (.aload 6, 2) := by decide +kernel
theorem dL_law_559 : decode cL_law 559 = .ok (.iload 10, 2) := by decide +kernel
theorem dL_law_561 : decode cL_law 561 = .ok (.iaload, 1) := by decide +kernel
theorem dL_law_562 : decode cL_law 562 = .ok (.iadd, 1) := by decide +kernel
theorem dL_law_563 : decode cL_law 563 = .ok (.istore 9, 2) := by decide +kernel
theorem dL_law_565 : decode cL_law 565 = .ok (.iinc 10 1, 3) := by decide +kernel
theorem dL_law_568 : decode cL_law 568 = .ok (.goto (-47), 3) := by decide +kernel
theorem dL_law_571 : decode cL_law 571 = .ok (.sipush 130, 3) := by decide +kernel
theorem dL_law_574 : decode cL_law 574 = .ok (.aload 4, 2) := by decide +kernel
theorem dL_law_576 : decode cL_law 576 = .ok (.iconst 1, 1) := by decide +kernel
theorem dL_law_577 : decode cL_law 577 = .ok (.invokevirtual 36, 3) := by decide +kernel
theorem dL_law_580 : decode cL_law 580 = .ok (.isub, 1) := by decide +kernel
theorem dL_law_581 : decode cL_law 581 = .ok (.istore 10, 2) := by decide +kernel
theorem dL_law_583 : decode cL_law 583 = .ok (.iload 10, 2) := by decide +kernel
theorem dL_law_585 : decode cL_law 585 = .ok (.bipush 70, 2) := by decide +kernel
theorem dL_law_587 : decode cL_law 587 = .ok (.if_icmp .le 11, 3) := by decide +kernel
theorem dL_law_590 : decode cL_law 590 = .ok (.iload 10, 2) := by decide +kernel
theorem dL_law_592 : decode cL_law 592 = .ok (.bipush 70, 2) := by decide +kernel
theorem dL_law_594 : decode cL_law 594 = .ok (.isub, 1) := by decide +kernel
theorem dL_law_595 : decode cL_law 595 = .ok (.goto 5, 3) := by decide +kernel
theorem dL_law_598 : decode cL_law 598 = .ok (.iload 10, 2) := by decide +kernel
theorem dL_law_600 : decode cL_law 600 = .ok (.istore 11, 2) := by decide +kernel
theorem dL_law_602 : decode cL_law 602 = .ok (.aload 4, 2) := by decide +kernel
theorem dL_law_604 : decode cL_law 604 = .ok (.iload 5, 2) := by decide +kernel
theorem dL_law_606 : decode cL_law 606 = .ok (.iload 11, 2) := by decide +kernel
theorem dL_law_608 : decode cL_law 608 = .ok (.invokevirtual 71, 3) := by decide +kernel
theorem dL_law_611 : decode cL_law 611 = .ok (.pop, 1) := by decide +kernel
theorem dL_law_612 : decode cL_law 612 = .ok (.aload 4, 2) := by decide +kernel
theorem dL_law_614 : decode cL_law 614 = .ok (.iconst 1, 1) := by decide +kernel
theorem dL_law_615 : decode cL_law 615 = .ok (.invokevirtual 36, 3) := by decide +kernel
theorem dL_law_618 : decode cL_law 618 = .ok (.bipush 60, 2) := by decide +kernel
theorem dL_law_620 : decode cL_law 620 = .ok (.if_icmp .ne 18, 3) := by decide +kernel
theorem dL_law_623 : decode cL_law 623 = .ok (.aload 4, 2) := by decide +kernel
theorem dL_law_625 : decode cL_law 625 = .ok (.bipush 14, 2) := by decide +kernel
theorem dL_law_627 : decode cL_law 627 = .ok (.invokevirtual 36, 3) := by decide +kernel
theorem dL_law_630 : decode cL_law 630 = .ok (.iload 8, 2) := by decide +kernel
theorem dL_law_632 : decode cL_law 632 = .ok (.isub, 1) := by decide +kernel
theorem dL_law_633 : decode cL_law 633 = .ok (.iload 9, 2) := by decide +kernel
theorem dL_law_635 : decode cL_law 635 = .ok (.if_icmp .eq 5, 3) := by decide +kernel
theorem dL_law_638 : decode cL_law 638 = .ok (.iconst 0, 1) := by decide +kernel
theorem dL_law_639 : decode cL_law 639 = .ok (.ireturn, 1) := by decide +kernel
theorem dL_law_640 : decode cL_law 640 = .ok (.iconst 0, 1) := by decide +kernel
theorem dL_law_641 : decode cL_law 641 = .ok (.istore 12, 2) := by decide +kernel
theorem dL_law_643 : decode cL_law 643 = .ok (.iload 12, 2) := by decide +kernel
theorem dL_law_645 : decode cL_law 645 = .ok (.iconst 4, 1) := by decide +kernel
theorem dL_law_646 : decode cL_law 646 = .ok (.if_icmp .ge 34, 3) := by decide +kernel
theorem dL_law_649 : decode cL_law 649 = .ok (.aload 4, 2) := by decide +kernel
theorem dL_law_651 : decode cL_law 651 = .ok (.iload 12, 2) := by decide +kernel
theorem dL_law_653 : decode cL_law 653 = .ok (.bipush 6, 2) := by decide +kernel
theorem dL_law_655 : decode cL_law 655 = .ok (.invokevirtual 68, 3) := by decide +kernel
theorem dL_law_658 : decode cL_law 658 = .ok (.aload 7, 2) := by decide +kernel
theorem dL_law_660 : decode cL_law 660 = .ok (.iload 12, 2) := by decide +kernel
theorem dL_law_662 : decode cL_law 662 = .ok (.iaload, 1) := by decide +kernel
theorem dL_law_663 : decode cL_law 663 = .ok (.aload 6, 2) := by decide +kernel
theorem dL_law_665 : decode cL_law 665 = .ok (.iload 12, 2) := by decide +kernel
theorem dL_law_667 : decode cL_law 667 = .ok (.iaload, 1) := by decide +kernel
theorem dL_law_668 : decode cL_law 668 = .ok (.iadd, 1) := by decide +kernel
theorem dL_law_669 : decode cL_law 669 = .ok (.if_icmp .eq 5, 3) := by decide +kernel
theorem dL_law_672 : decode cL_law 672 = .ok (.iconst 0, 1) := by decide +kernel
theorem dL_law_673 : decode cL_law 673 = .ok (.ireturn, 1) := by decide +kernel
theorem dL_law_674 : decode cL_law 674 = .ok (.iinc 12 1, 3) := by decide +kernel
theorem dL_law_677 : decode cL_law 677 = .ok (.goto (-34), 3) := by decide +kernel
theorem dL_law_680 : decode cL_law 680 = .ok (.aload_n 0, 1) := by decide +kernel
theorem dL_law_681 : decode cL_law 681 = .ok (.iload_n 1, 1) := by decide +kernel
theorem dL_law_682 : decode cL_law 682 = .ok (.invokestatic 74, 3) := by decide +kernel
theorem dL_law_685 : decode cL_law 685 = .ok (.ifCond .ne 5, 3) := by decide +kernel
theorem dL_law_688 : decode cL_law 688 = .ok (.iconst 0, 1) := by decide +kernel
theorem dL_law_689 : decode cL_law 689 = .ok (.ireturn, 1) := by decide +kernel
theorem dL_law_690 : decode cL_law 690 = .ok (.iinc 1 1, 3) := by decide +kernel
theorem dL_law_693 : decode cL_law 693 = .ok (.goto (-691), 3) := by decide +kernel
theorem dL_law_696 : decode cL_law 696 = .ok (.iconst 1, 1) := by decide +kernel
theorem dL_law_697 : decode cL_law 697 = .ok (.ireturn, 1) := by decide +kernel
theorem dL_all_0 : decode cL_all 0 = .ok (.iconst 0, 1) := by decide +kernel
theorem dL_all_1 : decode cL_all 1 = .ok (.istore_n 3, 1) := by decide +kernel
theorem dL_all_2 : decode cL_all 2 = .ok (.iconst 0, 1) := by decide +kernel
theorem dL_all_3 : decode cL_all 3 = .ok (.istore 4, 2) := by decide +kernel
theorem dL_all_5 : decode cL_all 5 = .ok (.iload 4, 2) := by decide +kernel
theorem dL_all_7 : decode cL_all 7 = .ok (.iconst 4, 1) := by decide +kernel
theorem dL_all_8 : decode cL_all 8 = .ok (.if_icmp .ge 20, 3) := by decide +kernel
theorem dL_all_11 : decode cL_all 11 = .ok (.iload_n 3, 1) := by decide +kernel
theorem dL_all_12 : decode cL_all 12 = .ok (.aload_n 0, 1) := by decide +kernel
theorem dL_all_13 : decode cL_all 13 = .ok (.iload 4, 2) := by decide +kernel
theorem dL_all_15 : decode cL_all 15 = .ok (.iload_n 1, 1) := by decide +kernel
theorem dL_all_16 : decode cL_all 16 = .ok (.iload_n 2, 1) := by decide +kernel
theorem dL_all_17 : decode cL_all 17 = .ok (.invokevirtual 46, 3) := by decide +kernel
theorem dL_all_20 : decode cL_all 20 = .ok (.iadd, 1) := by decide +kernel
theorem dL_all_21 : decode cL_all 21 = .ok (.istore_n 3, 1) := by decide +kernel
theorem dL_all_22 : decode cL_all 22 = .ok (.iinc 4 1, 3) := by decide +kernel
theorem dL_all_25 : decode cL_all 25 = .ok (.goto (-20), 3) := by decide +kernel
theorem dL_all_28 : decode cL_all 28 = .ok (.iload_n 3, 1) := by decide +kernel
theorem dL_all_29 : decode cL_all 29 = .ok (.ireturn, 1) := by decide +kernel
theorem dL_isBest_0 : decode cL_isBest 0 = .ok (.iconst (-1), 1) := by decide +kernel
theorem dL_isBest_1 : decode cL_isBest 1 = .ok (.istore_n 2, 1) := by decide +kernel
theorem dL_isBest_2 : decode cL_isBest 2 = .ok (.iconst (-1), 1) := by decide +kernel
theorem dL_isBest_3 : decode cL_isBest 3 = .ok (.istore_n 3, 1) := by decide +kernel
theorem dL_isBest_4 : decode cL_isBest 4 = .ok (.iconst 0, 1) := by decide +kernel
theorem dL_isBest_5 : decode cL_isBest 5 = .ok (.istore 4, 2) := by decide +kernel
theorem dL_isBest_7 : decode cL_isBest 7 = .ok (.iload 4, 2) := by decide +kernel
theorem dL_isBest_9 : decode cL_isBest 9 = .ok (.iconst 3, 1) := by decide +kernel
theorem dL_isBest_10 : decode cL_isBest 10 = .ok (.if_icmp .ge 164, 3) := by decide +kernel
theorem dL_isBest_13 : decode cL_isBest 13 = .ok (.new 9, 3) := by decide +kernel
theorem dL_isBest_16 : decode cL_isBest 16 = .ok (.dup, 1) := by decide +kernel
theorem dL_isBest_17 : decode cL_isBest 17 = .ok (.aload_n 0, 1) := by decide +kernel
theorem dL_isBest_18 : decode cL_isBest 18 = .ok (.bipush 41, 2) := by decide +kernel
theorem dL_isBest_20 : decode cL_isBest 20 = .ok (.iload_n 1, 1) := by decide +kernel
theorem dL_isBest_21 : decode cL_isBest 21 = .ok (.imul, 1) := by decide +kernel
theorem dL_isBest_22 : decode cL_isBest 22 = .ok (.iconst 3, 1) := by decide +kernel
theorem dL_isBest_23 : decode cL_isBest 23 = .ok (.iadd, 1) := by decide +kernel
theorem dL_isBest_24 : decode cL_isBest 24 = .ok (.invokespecial 11, 3) := by decide +kernel
theorem dL_isBest_27 : decode cL_isBest 27 = .ok (.astore 5, 2) := by decide +kernel
theorem dL_isBest_29 : decode cL_isBest 29 = .ok (.aload 5, 2) := by decide +kernel
theorem dL_isBest_31 : decode cL_isBest 31 = .ok (.iconst 4, 1) := by decide +kernel
theorem dL_isBest_32 : decode cL_isBest 32 = .ok (.invokevirtual 18, 3) := by decide +kernel
theorem dL_isBest_35 : decode cL_isBest 35 = .ok (.ifCond .ne 5, 3) := by decide +kernel
theorem dL_isBest_38 : decode cL_isBest 38 = .ok (.iconst 0, 1) := by decide +kernel
theorem dL_isBest_39 : decode cL_isBest 39 = .ok (.ireturn, 1) := by decide +kernel
theorem dL_isBest_40 : decode cL_isBest 40 = .ok (.aload 5, 2) := by decide +kernel
theorem dL_isBest_42 : decode cL_isBest 42 = .ok (.bipush 60, 2) := by decide +kernel
theorem dL_isBest_44 : decode cL_isBest 44 = .ok (.invokevirtual 22, 3) := by decide +kernel
theorem dL_isBest_47 : decode cL_isBest 47 = .ok (.istore 6, 2) := by decide +kernel
theorem dL_isBest_49 : decode cL_isBest 49 = .ok (.iconst 1, 1) := by decide +kernel
theorem dL_isBest_50 : decode cL_isBest 50 = .ok (.aload 5, 2) := by decide +kernel
theorem dL_isBest_52 : decode cL_isBest 52 = .ok (.bipush 20, 2) := by decide +kernel
theorem dL_isBest_54 : decode cL_isBest 54 = .ok (.invokevirtual 22, 3) := by decide +kernel
theorem dL_isBest_57 : decode cL_isBest 57 = .ok (.iadd, 1) := by decide +kernel
theorem dL_isBest_58 : decode cL_isBest 58 = .ok (.istore 7, 2) := by decide +kernel
theorem dL_isBest_60 : decode cL_isBest 60 = .ok (.aload 5, 2) := by decide +kernel
theorem dL_isBest_62 : decode cL_isBest 62 = .ok (.bipush 21, 2) := by decide +kernel
theorem dL_isBest_64 : decode cL_isBest 64 = .ok (.invokevirtual 22, 3) := by decide +kernel
theorem dL_isBest_67 : decode cL_isBest 67 = .ok (.istore 8, 2) := by decide +kernel
theorem dL_isBest_69 : decode cL_isBest 69 = .ok (.iload 4, 2) := by decide +kernel
theorem dL_isBest_71 : decode cL_isBest 71 = .ok (.ifCond .ne 16, 3) := by decide +kernel
theorem dL_isBest_74 : decode cL_isBest 74 = .ok (.aload 5, 2) := by decide +kernel
theorem dL_isBest_76 : decode cL_isBest 76 = .ok (.getfield 14, 3) := by decide +kernel
theorem dL_isBest_79 : decode cL_isBest 79 = .ok (.iload 6, 2) := by decide +kernel
theorem dL_isBest_81 : decode cL_isBest 81 = .ok (.iload 7, 2) := by decide +kernel
theorem dL_isBest_83 : decode cL_isBest 83 = .ok (.invokevirtual 50, 3) := by decide +kernel
theorem dL_isBest_86 : decode cL_isBest 86 = .ok (.istore_n 3, 1) := by decide +kernel
theorem dL_isBest_87 : decode cL_isBest 87 = .ok (.iload 4, 2) := by decide +kernel
theorem dL_isBest_89 : decode cL_isBest 89 = .ok (.ifCond .ne 7, 3) := by decide +kernel
theorem dL_isBest_92 : decode cL_isBest 92 = .ok (.iload_n 3, 1) := by decide +kernel
theorem dL_isBest_93 : decode cL_isBest 93 = .ok (.goto 15, 3) := by decide +kernel
theorem dL_isBest_96 : decode cL_isBest 96 = .ok (.iload 4, 2) := by decide +kernel
theorem dL_isBest_98 : decode cL_isBest 98 = .ok (.iconst 1, 1) := by decide +kernel
theorem dL_isBest_99 : decode cL_isBest 99 = .ok (.if_icmp .ne 7, 3) := by decide +kernel
theorem dL_isBest_102 : decode cL_isBest 102 = .ok (.iconst 0, 1) := by decide +kernel
theorem dL_isBest_103 : decode cL_isBest 103 = .ok (.goto 5, 3) := by decide +kernel
theorem dL_isBest_106 : decode cL_isBest 106 = .ok (.iload 8, 2) := by decide +kernel
theorem dL_isBest_108 : decode cL_isBest 108 = .ok (.istore 9, 2) := by decide +kernel
theorem dL_isBest_110 : decode cL_isBest 110 = .ok (.iload 9, 2) := by decide +kernel
theorem dL_isBest_112 : decode cL_isBest 112 = .ok (.ifCond .le 14, 3) := by decide +kernel
theorem dL_isBest_115 : decode cL_isBest 115 = .ok (.aload 5, 2) := by decide +kernel
theorem dL_isBest_117 : decode cL_isBest 117 = .ok (.getfield 14, 3) := by decide +kernel
theorem dL_isBest_120 : decode cL_isBest 120 = .ok (.iload 9, 2) := by decide +kernel
theorem dL_isBest_122 : decode cL_isBest 122 = .ok (.invokevirtual 78, 3) := by decide +kernel
theorem dL_isBest_125 : decode cL_isBest 125 = .ok (.pop, 1) := by decide +kernel
theorem dL_isBest_126 : decode cL_isBest 126 = .ok (.aload 5, 2) := by decide +kernel
theorem dL_isBest_128 : decode cL_isBest 128 = .ok (.getfield 14, 3) := by decide +kernel
theorem dL_isBest_131 : decode cL_isBest 131 = .ok (.iload 6, 2) := by decide +kernel
theorem dL_isBest_133 : decode cL_isBest 133 = .ok (.iload 7, 2) := by decide +kernel
theorem dL_isBest_135 : decode cL_isBest 135 = .ok (.invokevirtual 71, 3) := by decide +kernel
theorem dL_isBest_138 : decode cL_isBest 138 = .ok (.istore 10, 2) := by decide +kernel
theorem dL_isBest_140 : decode cL_isBest 140 = .ok (.iload 4, 2) := by decide +kernel
theorem dL_isBest_142 : decode cL_isBest 142 = .ok (.ifCond .ne 6, 3) := by decide +kernel
theorem dL_isBest_145 : decode cL_isBest 145 = .ok (.iload 10, 2) := by decide +kernel
theorem dL_isBest_147 : decode cL_isBest 147 = .ok (.istore_n 2, 1) := by decide +kernel
theorem dL_isBest_148 : decode cL_isBest 148 = .ok (.iload 10, 2) := by decide +kernel
theorem dL_isBest_150 : decode cL_isBest 150 = .ok (.iload_n 2, 1) := by decide +kernel
theorem dL_isBest_151 : decode cL_isBest 151 = .ok (.if_icmp .gt 15, 3) := by decide +kernel
theorem dL_isBest_154 : decode cL_isBest 154 = .ok (.iload 10, 2) := by decide +kernel
theorem dL_isBest_156 : decode cL_isBest 156 = .ok (.iload_n 2, 1) := by decide +kernel
theorem dL_isBest_157 : decode cL_isBest 157 = .ok (.if_icmp .ne 11, 3) := by decide +kernel
theorem dL_isBest_160 : decode cL_isBest 160 = .ok (.iload 9, 2) := by decide +kernel
theorem dL_isBest_162 : decode cL_isBest 162 = .ok (.iload_n 3, 1) := by decide +kernel
theorem dL_isBest_163 : decode cL_isBest 163 = .ok (.if_icmp .ge 5, 3) := by decide +kernel
theorem dL_isBest_166 : decode cL_isBest 166 = .ok (.iconst 0, 1) := by decide +kernel
theorem dL_isBest_167 : decode cL_isBest 167 = .ok (.ireturn, 1) := by decide +kernel
theorem dL_isBest_168 : decode cL_isBest 168 = .ok (.iinc 4 1, 3) := by decide +kernel
theorem dL_isBest_171 : decode cL_isBest 171 = .ok (.goto (-164), 3) := by decide +kernel
theorem dL_isBest_174 : decode cL_isBest 174 = .ok (.iconst 1, 1) := by decide +kernel
theorem dL_isBest_175 : decode cL_isBest 175 = .ok (.ireturn, 1) := by decide +kernel
end
section
def mW : List Cond := lw_tbl.filter goodWord
theorem mWin {w : Cond} (i : Nat) (h : lw_tbl[i]? = some w) (hg : goodWord w = true) : w ∈ mW := List.mem_filter.mpr ⟨List.mem_of_getElem? h, hg⟩
theorem mWgood {w : Cond} (h : w ∈ mW) : goodWord w = true := (List.mem_filter.mp h).2
theorem mWtbl {w : Cond} (h : w ∈ mW) : w ∈ lw_tbl := (List.mem_filter.mp h).1
def mNest : List Cond := [.methodLinkNest RX5 9 yX2_init "OasisBooks",
  .methodLinkNest RX2 11 yX0_init "OasisBooks",
  .fieldLinkNest RX2 204 "OasisBooks$Channel" "table" "I" "OasisBooks",
  .fieldLinkNest RX5 101 "OasisBooks$Channel" "length" "I" "OasisBooks",
  .fieldLinkNest RX2 207 "OasisBooks$Channel" "length" "I" "OasisBooks",
  .fieldLinkNest RX2 210 "OasisBooks$Channel" "mud" "I" "OasisBooks",
  .fieldLinkNest RX5 118 "OasisBooks$Channel" "draw" "I" "OasisBooks",
  .fieldLinkNest RX2 213 "OasisBooks$Channel" "draw" "I" "OasisBooks",
  .fieldLinkNest RX4 43 "OasisBooks$Owner" "number" "I" "OasisBooks",
  .fieldLinkNest RX2 125 "OasisBooks$Owner" "number" "I" "OasisBooks",
  .fieldLinkNest RX4 53 "OasisBooks$Owner" "lives" "Z" "OasisBooks",
  .fieldLinkNest RX5 73 "OasisBooks$Owner" "bowls" "I" "OasisBooks",
  .fieldLinkNest RX2 95 "OasisBooks$Owner" "bowls" "I" "OasisBooks",
  .fieldLinkNest RX4 65 "OasisBooks$Owner" "bowls" "I" "OasisBooks",
  .fieldLinkNest RX5 63 "OasisBooks$Owner" "coins" "I" "OasisBooks",
  .fieldLinkNest RX2 174 "OasisBooks$Owner" "coins" "I" "OasisBooks",
  .fieldLinkNest RX4 72 "OasisBooks$Owner" "coins" "I" "OasisBooks",
  .fieldLinkNest RX5 127 "OasisBooks$Owner" "palms" "I" "OasisBooks",
  .fieldLinkNest RX2 177 "OasisBooks$Owner" "palms" "I" "OasisBooks",
  .fieldLinkNest RX2 180 "OasisBooks$Owner" "males" "I" "OasisBooks",
  .fieldLinkNest RX2 183 "OasisBooks$Owner" "moist" "I" "OasisBooks",
  .fieldLinkNest RX2 186 "OasisBooks$Owner" "salt" "I" "OasisBooks",
  .fieldLinkNest RX2 139 "OasisBooks$Owner" "dates" "I" "OasisBooks",
  .fieldLinkNest RX5 121 "OasisBooks$Owner" "pollinated" "I" "OasisBooks",
  .fieldLinkNest RX2 195 "OasisBooks$Owner" "pollinated" "I" "OasisBooks",
  .fieldLinkNest RX2 104 "OasisBooks$Owner" "flowing" "I" "OasisBooks",
  .fieldLinkNest RX2 115 "OasisBooks$Owner" "cameLatest" "I" "OasisBooks",
  .fieldLinkNest RX2 201 "OasisBooks$Owner" "cameEver" "I" "OasisBooks",
  .fieldLinkNest RX5 221 "OasisBooks$Owner" "cameEver" "I" "OasisBooks",
  .fieldLinkNest RX4 85 "OasisBooks$Owner" "reaped" "I" "OasisBooks",
  .fieldLinkNest RX5 227 "OasisBooks$Owner" "reaped" "I" "OasisBooks",
  .methodLinkNest RX2 27 yX1_init "OasisBooks",
  .fieldLinkNest RX5 97 "OasisBooks$Oasis" "channel" "LOasisBooks$Channel;" "OasisBooks",
  .fieldLinkNest RX5 30 "OasisBooks$Oasis" "people" "LOasisBooks$People;" "OasisBooks",
  .fieldLinkNest RX5 76 "OasisBooks$Oasis" "loans" "LOasisBooks$Deals;" "OasisBooks",
  .fieldLinkNest RX5 136 "OasisBooks$Oasis" "sales" "LOasisBooks$Deals;" "OasisBooks",
  .fieldLinkNest RX5 139 "OasisBooks$Oasis" "day" "I" "OasisBooks",
  .methodLinkNest RX6 51 yL_cell "OasisBooksLaw",
  .methodLinkNest RX6 57 yL_below "OasisBooksLaw"]
theorem qS_X5_mustLive : Cond.selects RX5 yX5_mustLive yX5_mustLive ∈ mW := mWin 0 (by decide +kernel) (by decide +kernel)
theorem qS_Throwable_fillInStackTrace24 : Cond.selects "java/lang/Throwable" (⟨"java/lang/Throwable", "fillInStackTrace", "(I)Ljava/lang/Throwable;"⟩ : MethodName) (⟨"java/lang/Throwable", "fillInStackTrace", "(I)Ljava/lang/Throwable;"⟩ : MethodName) ∈ mW := mWin 1 (by decide +kernel) (by decide +kernel)
theorem qS_X1_set : Cond.selects RX1 yX1_set yX1_set ∈ mW := mWin 2 (by decide +kernel) (by decide +kernel)
theorem qS_X2_letDayGoBy : Cond.selects RX2 yX2_letDayGoBy yX2_letDayGoBy ∈ mW := mWin 3 (by decide +kernel) (by decide +kernel)
theorem qS_X2_giveWater : Cond.selects RX2 yX2_giveWater yX2_giveWater ∈ mW := mWin 4 (by decide +kernel) (by decide +kernel)
theorem qS_X2_giveLentWater : Cond.selects RX2 yX2_giveLentWater yX2_giveLentWater ∈ mW := mWin 5 (by decide +kernel) (by decide +kernel)
theorem qS_X2_deliverSales : Cond.selects RX2 yX2_deliverSales yX2_deliverSales ∈ mW := mWin 6 (by decide +kernel) (by decide +kernel)
theorem qS_X1_moveTo : Cond.selects RX1 yX1_moveTo yX1_moveTo ∈ mW := mWin 7 (by decide +kernel) (by decide +kernel)
theorem qS_X5_imagineLater : Cond.selects RX5 yX5_imagineLater yX5_imagineLater ∈ mW := mWin 8 (by decide +kernel) (by decide +kernel)
theorem qS_X4_putAt : Cond.selects RX4 yX4_putAt yX4_putAt ∈ mW := mWin 9 (by decide +kernel) (by decide +kernel)
theorem qS_X5_cameUntilLater : Cond.selects RX5 yX5_cameUntilLater yX5_cameUntilLater ∈ mW := mWin 10 (by decide +kernel) (by decide +kernel)
theorem qS_X5_imagineHarvest : Cond.selects RX5 yX5_imagineHarvest yX5_imagineHarvest ∈ mW := mWin 11 (by decide +kernel) (by decide +kernel)
theorem qS_X5_reapedAtHarvest : Cond.selects RX5 yX5_reapedAtHarvest yX5_reapedAtHarvest ∈ mW := mWin 12 (by decide +kernel) (by decide +kernel)
theorem qS_X5_digestOwners : Cond.selects RX5 yX5_digestOwners yX5_digestOwners ∈ mW := mWin 13 (by decide +kernel) (by decide +kernel)
theorem qZ_L : Cond.initialized RL ∈ mW := mWin 14 (by decide +kernel) (by decide +kernel)
theorem qZ_X6 : Cond.initialized RX6 ∈ mW := mWin 15 (by decide +kernel) (by decide +kernel)
theorem qZ_X5 : Cond.initialized RX5 ∈ mW := mWin 16 (by decide +kernel) (by decide +kernel)
theorem qZ_X2 : Cond.initialized RX2 ∈ mW := mWin 17 (by decide +kernel) (by decide +kernel)
theorem qZ_X0 : Cond.initialized RX0 ∈ mW := mWin 18 (by decide +kernel) (by decide +kernel)
theorem qZ_X4 : Cond.initialized RX4 ∈ mW := mWin 19 (by decide +kernel) (by decide +kernel)
theorem qZ_X3 : Cond.initialized RX3 ∈ mW := mWin 20 (by decide +kernel) (by decide +kernel)
theorem qZ_X1 : Cond.initialized RX1 ∈ mW := mWin 21 (by decide +kernel) (by decide +kernel)
theorem qZ_System : Cond.initialized "java/lang/System" ∈ mW := mWin 22 (by decide +kernel) (by decide +kernel)
theorem qZ_Throwable : Cond.initialized "java/lang/Throwable" ∈ mW := mWin 23 (by decide +kernel) (by decide +kernel)
theorem qZ_Exception : Cond.initialized "java/lang/Exception" ∈ mW := mWin 24 (by decide +kernel) (by decide +kernel)
theorem qZ_RuntimeException : Cond.initialized "java/lang/RuntimeException" ∈ mW := mWin 25 (by decide +kernel) (by decide +kernel)
theorem qZ_IllegalArgumentException : Cond.initialized "java/lang/IllegalArgumentException" ∈ mW := mWin 26 (by decide +kernel) (by decide +kernel)
theorem qZ_IllegalStateException : Cond.initialized "java/lang/IllegalStateException" ∈ mW := mWin 27 (by decide +kernel) (by decide +kernel)
theorem qZ_IndexOutOfBoundsException : Cond.initialized "java/lang/IndexOutOfBoundsException" ∈ mW := mWin 28 (by decide +kernel) (by decide +kernel)
theorem qZ_Math : Cond.initialized "java/lang/Math" ∈ mW := mWin 29 (by decide +kernel) (by decide +kernel)
theorem qL_L_32 : Cond.methodLink RL 32 yX5_sell ∈ mW := mWin 30 (by decide +kernel) (by decide +kernel)
theorem qI_X5_sell : Cond.instanceMethod yX5_sell ∈ mW := mWin 31 (by decide +kernel) (by decide +kernel)
theorem qS_X5_sell : Cond.selects RX5 yX5_sell yX5_sell ∈ mW := mWin 32 (by decide +kernel) (by decide +kernel)
theorem qC_X5_sell : Cond.code yX5_sell prog_1_method_3_code 7 (Option.some Jvm.ClassFile.FieldType.int) ∈ mW := mWin 33 (by decide +kernel) (by decide +kernel)
theorem qL_X5_51 : Cond.methodLink RX5 51 yX5_mustLive ∈ mW := mWin 34 (by decide +kernel) (by decide +kernel)
theorem qI_X5_mustLive : Cond.instanceMethod yX5_mustLive ∈ mW := mWin 36 (by decide +kernel) (by decide +kernel)
theorem qN_X5 : Cond.instantiable RX5 3 ∈ mW := mWin 37 (by decide +kernel) (by decide +kernel)
theorem qC_X5_mustLive : Cond.code yX5_mustLive prog_1_method_34_code 2 (Option.none : Option Jvm.ClassFile.FieldType) ∈ mW := mWin 38 (by decide +kernel) (by decide +kernel)
theorem qL_X5_215 : Cond.methodLink RX5 215 yX4_isLiving ∈ mW := mWin 39 (by decide +kernel) (by decide +kernel)
theorem qI_X4_isLiving : Cond.instanceMethod yX4_isLiving ∈ mW := mWin 40 (by decide +kernel) (by decide +kernel)
theorem qS_X4_isLiving : Cond.selects RX4 yX4_isLiving yX4_isLiving ∈ mW := mWin 41 (by decide +kernel) (by decide +kernel)
theorem qC_X4_isLiving : Cond.code yX4_isLiving prog_6_method_6_code 2 (Option.some Jvm.ClassFile.FieldType.boolean) ∈ mW := mWin 42 (by decide +kernel) (by decide +kernel)
theorem qL_X4_28 : Cond.methodLink RX4 28 yX4_numbered ∈ mW := mWin 43 (by decide +kernel) (by decide +kernel)
theorem qI_X4_numbered : Cond.instanceMethod yX4_numbered ∈ mW := mWin 44 (by decide +kernel) (by decide +kernel)
theorem qS_X4_numbered : Cond.selects RX4 yX4_numbered yX4_numbered ∈ mW := mWin 45 (by decide +kernel) (by decide +kernel)
theorem qC_X4_numbered : Cond.code yX4_numbered prog_6_method_3_code 2 (Option.some (Jvm.ClassFile.FieldType.object "OasisBooks$Owner")) ∈ mW := mWin 46 (by decide +kernel) (by decide +kernel)
theorem qL_X5_150 : Cond.methodLink RX5 150 yX5_mustExist ∈ mW := mWin 47 (by decide +kernel) (by decide +kernel)
theorem qT_X5_mustExist : Cond.static yX5_mustExist ∈ mW := mWin 48 (by decide +kernel) (by decide +kernel)
theorem qC_X5_mustExist : Cond.code yX5_mustExist prog_1_method_33_code 1 (Option.none : Option Jvm.ClassFile.FieldType) ∈ mW := mWin 49 (by decide +kernel) (by decide +kernel)
theorem qK_X5_236 : Cond.classLink RX5 236 "java/lang/IndexOutOfBoundsException" ∈ mW := mWin 50 (by decide +kernel) (by decide +kernel)
theorem qN_IndexOutOfBoundsException : Cond.instantiable "java/lang/IndexOutOfBoundsException" 6 ∈ mW := mWin 51 (by decide +kernel) (by decide +kernel)
theorem qF_Throwable_198 : Cond.fieldLink "java/lang/Throwable" 198 "java/lang/Throwable" "backtrace" "Ljava/lang/Object;" ∈ mW := mWin 71 (by decide +kernel) (by decide +kernel)
theorem qI_Throwable_init : Cond.instanceMethod (⟨"java/lang/Throwable", "<init>", "()V"⟩ : MethodName) ∈ mW := mWin 73 (by decide +kernel) (by decide +kernel)
theorem qC_Throwable_init : Cond.code (⟨"java/lang/Throwable", "<init>", "()V"⟩ : MethodName) prog_18_method_1_code 1 (Option.none : Option Jvm.ClassFile.FieldType) ∈ mW := mWin 74 (by decide +kernel) (by decide +kernel)
theorem qL_Throwable_1 : Cond.methodLink "java/lang/Throwable" 1 (⟨"java/lang/Object", "<init>", "()V"⟩ : MethodName) ∈ mW := mWin 75 (by decide +kernel) (by decide +kernel)
theorem qI_Object_init : Cond.instanceMethod (⟨"java/lang/Object", "<init>", "()V"⟩ : MethodName) ∈ mW := mWin 76 (by decide +kernel) (by decide +kernel)
theorem qC_Object_init : Cond.code (⟨"java/lang/Object", "<init>", "()V"⟩ : MethodName) object_method_1_code 1 (Option.none : Option Jvm.ClassFile.FieldType) ∈ mW := mWin 77 (by decide +kernel) (by decide +kernel)
theorem qF_Throwable_13 : Cond.fieldLink "java/lang/Throwable" 13 "java/lang/Throwable" "UNASSIGNED_STACK" "[Ljava/lang/StackTraceElement;" ∈ mW := mWin 78 (by decide +kernel) (by decide +kernel)
theorem qF_Throwable_20 : Cond.fieldLink "java/lang/Throwable" 20 "java/lang/Throwable" "SUPPRESSED_SENTINEL" "Ljava/util/List;" ∈ mW := mWin 80 (by decide +kernel) (by decide +kernel)
theorem qL_Throwable_27 : Cond.methodLink "java/lang/Throwable" 27 (⟨"java/lang/Throwable", "fillInStackTrace", "()Ljava/lang/Throwable;"⟩ : MethodName) ∈ mW := mWin 82 (by decide +kernel) (by decide +kernel)
theorem qI_Throwable_fillInStackTrace23 : Cond.instanceMethod (⟨"java/lang/Throwable", "fillInStackTrace", "()Ljava/lang/Throwable;"⟩ : MethodName) ∈ mW := mWin 83 (by decide +kernel) (by decide +kernel)
theorem qL_Throwable_202 : Cond.methodLink "java/lang/Throwable" 202 (⟨"java/lang/Throwable", "fillInStackTrace", "(I)Ljava/lang/Throwable;"⟩ : MethodName) ∈ mW := mWin 88 (by decide +kernel) (by decide +kernel)
theorem qI_Throwable_fillInStackTrace24 : Cond.instanceMethod (⟨"java/lang/Throwable", "fillInStackTrace", "(I)Ljava/lang/Throwable;"⟩ : MethodName) ∈ mW := mWin 90 (by decide +kernel) (by decide +kernel)
theorem qN_Throwable : Cond.instantiable "java/lang/Throwable" 6 ∈ mW := mWin 91 (by decide +kernel) (by decide +kernel)
theorem qV_Throwable_fillInStackTrace24 : Cond.native (⟨"java/lang/Throwable", "fillInStackTrace", "(I)Ljava/lang/Throwable;"⟩ : MethodName) ∈ mW := mWin 92 (by decide +kernel) (by decide +kernel)
theorem qL_X5_238 : Cond.methodLink RX5 238 (⟨"java/lang/IndexOutOfBoundsException", "<init>", "()V"⟩ : MethodName) ∈ mW := mWin 93 (by decide +kernel) (by decide +kernel)
theorem qI_IndexOutOfBoundsException_init : Cond.instanceMethod (⟨"java/lang/IndexOutOfBoundsException", "<init>", "()V"⟩ : MethodName) ∈ mW := mWin 94 (by decide +kernel) (by decide +kernel)
theorem qC_IndexOutOfBoundsException_init : Cond.code (⟨"java/lang/IndexOutOfBoundsException", "<init>", "()V"⟩ : MethodName) prog_14_method_1_code 1 (Option.none : Option Jvm.ClassFile.FieldType) ∈ mW := mWin 95 (by decide +kernel) (by decide +kernel)
theorem qL_IndexOutOfBoundsException_1 : Cond.methodLink "java/lang/IndexOutOfBoundsException" 1 (⟨"java/lang/RuntimeException", "<init>", "()V"⟩ : MethodName) ∈ mW := mWin 96 (by decide +kernel) (by decide +kernel)
theorem qI_RuntimeException_init : Cond.instanceMethod (⟨"java/lang/RuntimeException", "<init>", "()V"⟩ : MethodName) ∈ mW := mWin 97 (by decide +kernel) (by decide +kernel)
theorem qC_RuntimeException_init : Cond.code (⟨"java/lang/RuntimeException", "<init>", "()V"⟩ : MethodName) prog_16_method_1_code 1 (Option.none : Option Jvm.ClassFile.FieldType) ∈ mW := mWin 98 (by decide +kernel) (by decide +kernel)
theorem qL_RuntimeException_1 : Cond.methodLink "java/lang/RuntimeException" 1 (⟨"java/lang/Exception", "<init>", "()V"⟩ : MethodName) ∈ mW := mWin 99 (by decide +kernel) (by decide +kernel)
theorem qI_Exception_init : Cond.instanceMethod (⟨"java/lang/Exception", "<init>", "()V"⟩ : MethodName) ∈ mW := mWin 100 (by decide +kernel) (by decide +kernel)
theorem qC_Exception_init : Cond.code (⟨"java/lang/Exception", "<init>", "()V"⟩ : MethodName) prog_11_method_1_code 1 (Option.none : Option Jvm.ClassFile.FieldType) ∈ mW := mWin 101 (by decide +kernel) (by decide +kernel)
theorem qL_Exception_1 : Cond.methodLink "java/lang/Exception" 1 (⟨"java/lang/Throwable", "<init>", "()V"⟩ : MethodName) ∈ mW := mWin 102 (by decide +kernel) (by decide +kernel)
theorem qF_Throwable_7 : Cond.fieldLink "java/lang/Throwable" 7 "java/lang/Throwable" "cause" "Ljava/lang/Throwable;" ∈ mW := mWin 104 (by decide +kernel) (by decide +kernel)
theorem qF_Throwable_17 : Cond.fieldLink "java/lang/Throwable" 17 "java/lang/Throwable" "stackTrace" "[Ljava/lang/StackTraceElement;" ∈ mW := mWin 105 (by decide +kernel) (by decide +kernel)
theorem qF_Throwable_24 : Cond.fieldLink "java/lang/Throwable" 24 "java/lang/Throwable" "suppressedExceptions" "Ljava/util/List;" ∈ mW := mWin 106 (by decide +kernel) (by decide +kernel)
theorem qL_X5_22 : Cond.methodLink RX5 22 yX5_isWithin ∈ mW := mWin 115 (by decide +kernel) (by decide +kernel)
theorem qT_X5_isWithin : Cond.static yX5_isWithin ∈ mW := mWin 116 (by decide +kernel) (by decide +kernel)
theorem qC_X5_isWithin : Cond.code yX5_isWithin prog_1_method_30_code 3 (Option.some Jvm.ClassFile.FieldType.boolean) ∈ mW := mWin 117 (by decide +kernel) (by decide +kernel)
theorem qL_X5_26 : Cond.methodLink RX5 26 yX5_mustBeRight ∈ mW := mWin 118 (by decide +kernel) (by decide +kernel)
theorem qT_X5_mustBeRight : Cond.static yX5_mustBeRight ∈ mW := mWin 119 (by decide +kernel) (by decide +kernel)
theorem qC_X5_mustBeRight : Cond.code yX5_mustBeRight prog_1_method_31_code 1 (Option.none : Option Jvm.ClassFile.FieldType) ∈ mW := mWin 120 (by decide +kernel) (by decide +kernel)
theorem qK_X5_230 : Cond.classLink RX5 230 "java/lang/IllegalArgumentException" ∈ mW := mWin 121 (by decide +kernel) (by decide +kernel)
theorem qN_IllegalArgumentException : Cond.instantiable "java/lang/IllegalArgumentException" 6 ∈ mW := mWin 122 (by decide +kernel) (by decide +kernel)
theorem qL_X5_232 : Cond.methodLink RX5 232 (⟨"java/lang/IllegalArgumentException", "<init>", "()V"⟩ : MethodName) ∈ mW := mWin 130 (by decide +kernel) (by decide +kernel)
theorem qI_IllegalArgumentException_init : Cond.instanceMethod (⟨"java/lang/IllegalArgumentException", "<init>", "()V"⟩ : MethodName) ∈ mW := mWin 131 (by decide +kernel) (by decide +kernel)
theorem qC_IllegalArgumentException_init : Cond.code (⟨"java/lang/IllegalArgumentException", "<init>", "()V"⟩ : MethodName) prog_12_method_1_code 1 (Option.none : Option Jvm.ClassFile.FieldType) ∈ mW := mWin 132 (by decide +kernel) (by decide +kernel)
theorem qL_IllegalArgumentException_1 : Cond.methodLink "java/lang/IllegalArgumentException" 1 (⟨"java/lang/RuntimeException", "<init>", "()V"⟩ : MethodName) ∈ mW := mWin 133 (by decide +kernel) (by decide +kernel)
theorem qL_X5_55 : Cond.methodLink RX5 55 yX4_numbered ∈ mW := mWin 136 (by decide +kernel) (by decide +kernel)
theorem qL_X5_59 : Cond.methodLink RX5 59 yX2_unlentBowls ∈ mW := mWin 137 (by decide +kernel) (by decide +kernel)
theorem qI_X2_unlentBowls : Cond.instanceMethod yX2_unlentBowls ∈ mW := mWin 138 (by decide +kernel) (by decide +kernel)
theorem qS_X2_unlentBowls : Cond.selects RX2 yX2_unlentBowls yX2_unlentBowls ∈ mW := mWin 139 (by decide +kernel) (by decide +kernel)
theorem qC_X2_unlentBowls : Cond.code yX2_unlentBowls prog_4_method_12_code 2 (Option.some Jvm.ClassFile.FieldType.int) ∈ mW := mWin 140 (by decide +kernel) (by decide +kernel)
theorem qL_X2_164 : Cond.methodLink RX2 164 yX1_amountOf ∈ mW := mWin 141 (by decide +kernel) (by decide +kernel)
theorem qI_X1_amountOf : Cond.instanceMethod yX1_amountOf ∈ mW := mWin 142 (by decide +kernel) (by decide +kernel)
theorem qS_X1_amountOf : Cond.selects RX1 yX1_amountOf yX1_amountOf ∈ mW := mWin 143 (by decide +kernel) (by decide +kernel)
theorem qC_X1_amountOf : Cond.code yX1_amountOf prog_3_method_9_code 5 (Option.some Jvm.ClassFile.FieldType.int) ∈ mW := mWin 144 (by decide +kernel) (by decide +kernel)
theorem qL_X1_19 : Cond.methodLink RX1 19 yX1_get ∈ mW := mWin 145 (by decide +kernel) (by decide +kernel)
theorem qI_X1_get : Cond.instanceMethod yX1_get ∈ mW := mWin 146 (by decide +kernel) (by decide +kernel)
theorem qS_X1_get : Cond.selects RX1 yX1_get yX1_get ∈ mW := mWin 147 (by decide +kernel) (by decide +kernel)
theorem qC_X1_get : Cond.code yX1_get prog_3_method_3_code 4 (Option.some Jvm.ClassFile.FieldType.int) ∈ mW := mWin 148 (by decide +kernel) (by decide +kernel)
theorem qL_X5_69 : Cond.methodLink RX5 69 yX3_payTo ∈ mW := mWin 149 (by decide +kernel) (by decide +kernel)
theorem qI_X3_payTo : Cond.instanceMethod yX3_payTo ∈ mW := mWin 150 (by decide +kernel) (by decide +kernel)
theorem qS_X3_payTo : Cond.selects RX3 yX3_payTo yX3_payTo ∈ mW := mWin 151 (by decide +kernel) (by decide +kernel)
theorem qC_X3_payTo : Cond.code yX3_payTo prog_5_method_6_code 3 (Option.none : Option Jvm.ClassFile.FieldType) ∈ mW := mWin 152 (by decide +kernel) (by decide +kernel)
theorem qL_L_39 : Cond.methodLink RL 39 yX5_lend ∈ mW := mWin 153 (by decide +kernel) (by decide +kernel)
theorem qI_X5_lend : Cond.instanceMethod yX5_lend ∈ mW := mWin 154 (by decide +kernel) (by decide +kernel)
theorem qS_X5_lend : Cond.selects RX5 yX5_lend yX5_lend ∈ mW := mWin 155 (by decide +kernel) (by decide +kernel)
theorem qC_X5_lend : Cond.code yX5_lend prog_1_method_4_code 5 (Option.some Jvm.ClassFile.FieldType.int) ∈ mW := mWin 156 (by decide +kernel) (by decide +kernel)
theorem qL_X5_80 : Cond.methodLink RX5 80 yX1_isFull ∈ mW := mWin 157 (by decide +kernel) (by decide +kernel)
theorem qI_X1_isFull : Cond.instanceMethod yX1_isFull ∈ mW := mWin 158 (by decide +kernel) (by decide +kernel)
theorem qS_X1_isFull : Cond.selects RX1 yX1_isFull yX1_isFull ∈ mW := mWin 159 (by decide +kernel) (by decide +kernel)
theorem qC_X1_isFull : Cond.code yX1_isFull prog_3_method_6_code 1 (Option.some Jvm.ClassFile.FieldType.boolean) ∈ mW := mWin 160 (by decide +kernel) (by decide +kernel)
theorem qL_X5_44 : Cond.methodLink RX5 44 yX5_mustBePossible ∈ mW := mWin 161 (by decide +kernel) (by decide +kernel)
theorem qT_X5_mustBePossible : Cond.static yX5_mustBePossible ∈ mW := mWin 162 (by decide +kernel) (by decide +kernel)
theorem qC_X5_mustBePossible : Cond.code yX5_mustBePossible prog_1_method_32_code 1 (Option.none : Option Jvm.ClassFile.FieldType) ∈ mW := mWin 163 (by decide +kernel) (by decide +kernel)
theorem qK_X5_233 : Cond.classLink RX5 233 "java/lang/IllegalStateException" ∈ mW := mWin 164 (by decide +kernel) (by decide +kernel)
theorem qN_IllegalStateException : Cond.instantiable "java/lang/IllegalStateException" 6 ∈ mW := mWin 165 (by decide +kernel) (by decide +kernel)
theorem qL_X5_235 : Cond.methodLink RX5 235 (⟨"java/lang/IllegalStateException", "<init>", "()V"⟩ : MethodName) ∈ mW := mWin 173 (by decide +kernel) (by decide +kernel)
theorem qI_IllegalStateException_init : Cond.instanceMethod (⟨"java/lang/IllegalStateException", "<init>", "()V"⟩ : MethodName) ∈ mW := mWin 174 (by decide +kernel) (by decide +kernel)
theorem qC_IllegalStateException_init : Cond.code (⟨"java/lang/IllegalStateException", "<init>", "()V"⟩ : MethodName) prog_13_method_1_code 1 (Option.none : Option Jvm.ClassFile.FieldType) ∈ mW := mWin 175 (by decide +kernel) (by decide +kernel)
theorem qL_IllegalStateException_1 : Cond.methodLink "java/lang/IllegalStateException" 1 (⟨"java/lang/RuntimeException", "<init>", "()V"⟩ : MethodName) ∈ mW := mWin 176 (by decide +kernel) (by decide +kernel)
theorem qL_X5_86 : Cond.methodLink RX5 86 yX1_add ∈ mW := mWin 179 (by decide +kernel) (by decide +kernel)
theorem qI_X1_add : Cond.instanceMethod yX1_add ∈ mW := mWin 180 (by decide +kernel) (by decide +kernel)
theorem qS_X1_add : Cond.selects RX1 yX1_add yX1_add ∈ mW := mWin 181 (by decide +kernel) (by decide +kernel)
theorem qC_X1_add : Cond.code yX1_add prog_3_method_7_code 5 (Option.none : Option Jvm.ClassFile.FieldType) ∈ mW := mWin 182 (by decide +kernel) (by decide +kernel)
theorem qL_X1_23 : Cond.methodLink RX1 23 yX1_set ∈ mW := mWin 183 (by decide +kernel) (by decide +kernel)
theorem qI_X1_set : Cond.instanceMethod yX1_set ∈ mW := mWin 185 (by decide +kernel) (by decide +kernel)
theorem qN_X1 : Cond.instantiable RX1 2 ∈ mW := mWin 186 (by decide +kernel) (by decide +kernel)
theorem qC_X1_set : Cond.code yX1_set prog_3_method_4_code 5 (Option.none : Option Jvm.ClassFile.FieldType) ∈ mW := mWin 187 (by decide +kernel) (by decide +kernel)
theorem qL_X5_90 : Cond.methodLink RX5 90 yX1_count ∈ mW := mWin 188 (by decide +kernel) (by decide +kernel)
theorem qI_X1_count : Cond.instanceMethod yX1_count ∈ mW := mWin 189 (by decide +kernel) (by decide +kernel)
theorem qS_X1_count : Cond.selects RX1 yX1_count yX1_count ∈ mW := mWin 190 (by decide +kernel) (by decide +kernel)
theorem qC_X1_count : Cond.code yX1_count prog_3_method_5_code 1 (Option.some Jvm.ClassFile.FieldType.int) ∈ mW := mWin 191 (by decide +kernel) (by decide +kernel)
theorem qL_L_59 : Cond.methodLink RL 59 yX5_pump ∈ mW := mWin 192 (by decide +kernel) (by decide +kernel)
theorem qI_X5_pump : Cond.instanceMethod yX5_pump ∈ mW := mWin 193 (by decide +kernel) (by decide +kernel)
theorem qS_X5_pump : Cond.selects RX5 yX5_pump yX5_pump ∈ mW := mWin 194 (by decide +kernel) (by decide +kernel)
theorem qC_X5_pump : Cond.code yX5_pump prog_1_method_9_code 3 (Option.some Jvm.ClassFile.FieldType.int) ∈ mW := mWin 195 (by decide +kernel) (by decide +kernel)
theorem qL_L_26 : Cond.methodLink RL 26 yX5_pollinate ∈ mW := mWin 196 (by decide +kernel) (by decide +kernel)
theorem qI_X5_pollinate : Cond.instanceMethod yX5_pollinate ∈ mW := mWin 197 (by decide +kernel) (by decide +kernel)
theorem qS_X5_pollinate : Cond.selects RX5 yX5_pollinate yX5_pollinate ∈ mW := mWin 198 (by decide +kernel) (by decide +kernel)
theorem qC_X5_pollinate : Cond.code yX5_pollinate prog_1_method_10_code 5 (Option.some Jvm.ClassFile.FieldType.int) ∈ mW := mWin 199 (by decide +kernel) (by decide +kernel)
theorem qL_X5_124 : Cond.methodLink RX5 124 yX2_date ∈ mW := mWin 200 (by decide +kernel) (by decide +kernel)
theorem qI_X2_date : Cond.instanceMethod yX2_date ∈ mW := mWin 201 (by decide +kernel) (by decide +kernel)
theorem qS_X2_date : Cond.selects RX2 yX2_date yX2_date ∈ mW := mWin 202 (by decide +kernel) (by decide +kernel)
theorem qC_X2_date : Cond.code yX2_date prog_4_method_3_code 1 (Option.some Jvm.ClassFile.FieldType.int) ∈ mW := mWin 203 (by decide +kernel) (by decide +kernel)
theorem qL_X5_130 : Cond.methodLink RX5 130 yX3_pollenPalms ∈ mW := mWin 204 (by decide +kernel) (by decide +kernel)
theorem qI_X3_pollenPalms : Cond.instanceMethod yX3_pollenPalms ∈ mW := mWin 205 (by decide +kernel) (by decide +kernel)
theorem qS_X3_pollenPalms : Cond.selects RX3 yX3_pollenPalms yX3_pollenPalms ∈ mW := mWin 206 (by decide +kernel) (by decide +kernel)
theorem qC_X3_pollenPalms : Cond.code yX3_pollenPalms prog_5_method_7_code 1 (Option.some Jvm.ClassFile.FieldType.int) ∈ mW := mWin 207 (by decide +kernel) (by decide +kernel)
theorem qL_L_71 : Cond.methodLink RL 71 yX5_pass ∈ mW := mWin 208 (by decide +kernel) (by decide +kernel)
theorem qI_X5_pass : Cond.instanceMethod yX5_pass ∈ mW := mWin 209 (by decide +kernel) (by decide +kernel)
theorem qS_X5_pass : Cond.selects RX5 yX5_pass yX5_pass ∈ mW := mWin 210 (by decide +kernel) (by decide +kernel)
theorem qC_X5_pass : Cond.code yX5_pass prog_1_method_13_code 3 (Option.some Jvm.ClassFile.FieldType.int) ∈ mW := mWin 211 (by decide +kernel) (by decide +kernel)
theorem qL_X5_142 : Cond.methodLink RX5 142 yX2_letDaysGoBy ∈ mW := mWin 212 (by decide +kernel) (by decide +kernel)
theorem qI_X2_letDaysGoBy : Cond.instanceMethod yX2_letDaysGoBy ∈ mW := mWin 213 (by decide +kernel) (by decide +kernel)
theorem qS_X2_letDaysGoBy : Cond.selects RX2 yX2_letDaysGoBy yX2_letDaysGoBy ∈ mW := mWin 214 (by decide +kernel) (by decide +kernel)
theorem qC_X2_letDaysGoBy : Cond.code yX2_letDaysGoBy prog_4_method_5_code 5 (Option.some Jvm.ClassFile.FieldType.int) ∈ mW := mWin 215 (by decide +kernel) (by decide +kernel)
theorem qL_X2_62 : Cond.methodLink RX2 62 yX2_letDayGoBy ∈ mW := mWin 216 (by decide +kernel) (by decide +kernel)
theorem qI_X2_letDayGoBy : Cond.instanceMethod yX2_letDayGoBy ∈ mW := mWin 218 (by decide +kernel) (by decide +kernel)
theorem qN_X2 : Cond.instantiable RX2 8 ∈ mW := mWin 219 (by decide +kernel) (by decide +kernel)
theorem qC_X2_letDayGoBy : Cond.code yX2_letDayGoBy prog_4_method_6_code 4 (Option.some Jvm.ClassFile.FieldType.int) ∈ mW := mWin 220 (by decide +kernel) (by decide +kernel)
theorem qL_X2_58 : Cond.methodLink RX2 58 yX2_date ∈ mW := mWin 221 (by decide +kernel) (by decide +kernel)
theorem qL_X2_66 : Cond.methodLink RX2 66 yX0_letDayGoBy ∈ mW := mWin 222 (by decide +kernel) (by decide +kernel)
theorem qI_X0_letDayGoBy : Cond.instanceMethod yX0_letDayGoBy ∈ mW := mWin 223 (by decide +kernel) (by decide +kernel)
theorem qS_X0_letDayGoBy : Cond.selects RX0 yX0_letDayGoBy yX0_letDayGoBy ∈ mW := mWin 224 (by decide +kernel) (by decide +kernel)
theorem qC_X0_letDayGoBy : Cond.code yX0_letDayGoBy prog_2_method_4_code 3 (Option.none : Option Jvm.ClassFile.FieldType) ∈ mW := mWin 225 (by decide +kernel) (by decide +kernel)
theorem qL_X0_30 : Cond.methodLink RX0 30 yX0_flow ∈ mW := mWin 226 (by decide +kernel) (by decide +kernel)
theorem qI_X0_flow : Cond.instanceMethod yX0_flow ∈ mW := mWin 227 (by decide +kernel) (by decide +kernel)
theorem qS_X0_flow : Cond.selects RX0 yX0_flow yX0_flow ∈ mW := mWin 228 (by decide +kernel) (by decide +kernel)
theorem qC_X0_flow : Cond.code yX0_flow prog_2_method_3_code 1 (Option.some Jvm.ClassFile.FieldType.int) ∈ mW := mWin 229 (by decide +kernel) (by decide +kernel)
theorem qL_X0_24 : Cond.methodLink RX0 24 (⟨"java/lang/Math", "max", "(II)I"⟩ : MethodName) ∈ mW := mWin 230 (by decide +kernel) (by decide +kernel)
theorem qT_Math_max : Cond.static (⟨"java/lang/Math", "max", "(II)I"⟩ : MethodName) ∈ mW := mWin 231 (by decide +kernel) (by decide +kernel)
theorem qC_Math_max : Cond.code (⟨"java/lang/Math", "max", "(II)I"⟩ : MethodName) prog_15_method_65_code 2 (Option.some Jvm.ClassFile.FieldType.int) ∈ mW := mWin 232 (by decide +kernel) (by decide +kernel)
theorem qL_X0_34 : Cond.methodLink RX0 34 (⟨"java/lang/Math", "min", "(II)I"⟩ : MethodName) ∈ mW := mWin 233 (by decide +kernel) (by decide +kernel)
theorem qT_Math_min : Cond.static (⟨"java/lang/Math", "min", "(II)I"⟩ : MethodName) ∈ mW := mWin 234 (by decide +kernel) (by decide +kernel)
theorem qC_Math_min : Cond.code (⟨"java/lang/Math", "min", "(II)I"⟩ : MethodName) prog_15_method_69_code 2 (Option.some Jvm.ClassFile.FieldType.int) ∈ mW := mWin 235 (by decide +kernel) (by decide +kernel)
theorem qL_X0_37 : Cond.methodLink RX0 37 yX0_addMud ∈ mW := mWin 236 (by decide +kernel) (by decide +kernel)
theorem qI_X0_addMud : Cond.instanceMethod yX0_addMud ∈ mW := mWin 237 (by decide +kernel) (by decide +kernel)
theorem qS_X0_addMud : Cond.selects RX0 yX0_addMud yX0_addMud ∈ mW := mWin 238 (by decide +kernel) (by decide +kernel)
theorem qC_X0_addMud : Cond.code yX0_addMud prog_2_method_5_code 2 (Option.none : Option Jvm.ClassFile.FieldType) ∈ mW := mWin 239 (by decide +kernel) (by decide +kernel)
theorem qL_X2_69 : Cond.methodLink RX2 69 yX2_giveWater ∈ mW := mWin 240 (by decide +kernel) (by decide +kernel)
theorem qI_X2_giveWater : Cond.instanceMethod yX2_giveWater ∈ mW := mWin 242 (by decide +kernel) (by decide +kernel)
theorem qC_X2_giveWater : Cond.code yX2_giveWater prog_4_method_7_code 8 (Option.some Jvm.ClassFile.FieldType.int) ∈ mW := mWin 243 (by decide +kernel) (by decide +kernel)
theorem qL_X2_85 : Cond.methodLink RX2 85 yX0_flow ∈ mW := mWin 244 (by decide +kernel) (by decide +kernel)
theorem qL_X2_88 : Cond.methodLink RX2 88 yX4_countLiving ∈ mW := mWin 245 (by decide +kernel) (by decide +kernel)
theorem qI_X4_countLiving : Cond.instanceMethod yX4_countLiving ∈ mW := mWin 246 (by decide +kernel) (by decide +kernel)
theorem qS_X4_countLiving : Cond.selects RX4 yX4_countLiving yX4_countLiving ∈ mW := mWin 247 (by decide +kernel) (by decide +kernel)
theorem qC_X4_countLiving : Cond.code yX4_countLiving prog_6_method_7_code 1 (Option.some Jvm.ClassFile.FieldType.int) ∈ mW := mWin 248 (by decide +kernel) (by decide +kernel)
theorem qL_X2_91 : Cond.methodLink RX2 91 yX4_standing ∈ mW := mWin 249 (by decide +kernel) (by decide +kernel)
theorem qI_X4_standing : Cond.instanceMethod yX4_standing ∈ mW := mWin 250 (by decide +kernel) (by decide +kernel)
theorem qS_X4_standing : Cond.selects RX4 yX4_standing yX4_standing ∈ mW := mWin 251 (by decide +kernel) (by decide +kernel)
theorem qC_X4_standing : Cond.code yX4_standing prog_6_method_4_code 2 (Option.some (Jvm.ClassFile.FieldType.object "OasisBooks$Owner")) ∈ mW := mWin 252 (by decide +kernel) (by decide +kernel)
theorem qL_X2_100 : Cond.methodLink RX2 100 yX2_giveLentWater ∈ mW := mWin 253 (by decide +kernel) (by decide +kernel)
theorem qI_X2_giveLentWater : Cond.instanceMethod yX2_giveLentWater ∈ mW := mWin 255 (by decide +kernel) (by decide +kernel)
theorem qC_X2_giveLentWater : Cond.code yX2_giveLentWater prog_4_method_8_code 9 (Option.some Jvm.ClassFile.FieldType.int) ∈ mW := mWin 256 (by decide +kernel) (by decide +kernel)
theorem qL_X2_118 : Cond.methodLink RX2 118 yX1_count ∈ mW := mWin 257 (by decide +kernel) (by decide +kernel)
theorem qL_X2_121 : Cond.methodLink RX2 121 yX1_get ∈ mW := mWin 258 (by decide +kernel) (by decide +kernel)
theorem qL_X2_128 : Cond.methodLink RX2 128 yX4_numbered ∈ mW := mWin 259 (by decide +kernel) (by decide +kernel)
theorem qL_X2_107 : Cond.methodLink RX2 107 yX2_bowlsOfDay ∈ mW := mWin 260 (by decide +kernel) (by decide +kernel)
theorem qT_X2_bowlsOfDay : Cond.static yX2_bowlsOfDay ∈ mW := mWin 261 (by decide +kernel) (by decide +kernel)
theorem qC_X2_bowlsOfDay : Cond.code yX2_bowlsOfDay prog_4_method_9_code 5 (Option.some Jvm.ClassFile.FieldType.int) ∈ mW := mWin 262 (by decide +kernel) (by decide +kernel)
theorem qL_X2_131 : Cond.methodLink RX2 131 (⟨"java/lang/Math", "max", "(II)I"⟩ : MethodName) ∈ mW := mWin 263 (by decide +kernel) (by decide +kernel)
theorem qL_X2_136 : Cond.methodLink RX2 136 (⟨"java/lang/Math", "min", "(II)I"⟩ : MethodName) ∈ mW := mWin 264 (by decide +kernel) (by decide +kernel)
theorem qL_X2_111 : Cond.methodLink RX2 111 yX3_takeFlowing ∈ mW := mWin 265 (by decide +kernel) (by decide +kernel)
theorem qI_X3_takeFlowing : Cond.instanceMethod yX3_takeFlowing ∈ mW := mWin 266 (by decide +kernel) (by decide +kernel)
theorem qS_X3_takeFlowing : Cond.selects RX3 yX3_takeFlowing yX3_takeFlowing ∈ mW := mWin 267 (by decide +kernel) (by decide +kernel)
theorem qC_X3_takeFlowing : Cond.code yX3_takeFlowing prog_5_method_8_code 2 (Option.none : Option Jvm.ClassFile.FieldType) ∈ mW := mWin 268 (by decide +kernel) (by decide +kernel)
theorem qL_X2_72 : Cond.methodLink RX2 72 yX4_growPalms ∈ mW := mWin 269 (by decide +kernel) (by decide +kernel)
theorem qI_X4_growPalms : Cond.instanceMethod yX4_growPalms ∈ mW := mWin 270 (by decide +kernel) (by decide +kernel)
theorem qS_X4_growPalms : Cond.selects RX4 yX4_growPalms yX4_growPalms ∈ mW := mWin 271 (by decide +kernel) (by decide +kernel)
theorem qC_X4_growPalms : Cond.code yX4_growPalms prog_6_method_20_code 3 (Option.none : Option Jvm.ClassFile.FieldType) ∈ mW := mWin 272 (by decide +kernel) (by decide +kernel)
theorem qL_X4_40 : Cond.methodLink RX4 40 yX4_standing ∈ mW := mWin 273 (by decide +kernel) (by decide +kernel)
theorem qL_X4_78 : Cond.methodLink RX4 78 yX3_growPalms ∈ mW := mWin 274 (by decide +kernel) (by decide +kernel)
theorem qI_X3_growPalms : Cond.instanceMethod yX3_growPalms ∈ mW := mWin 275 (by decide +kernel) (by decide +kernel)
theorem qS_X3_growPalms : Cond.selects RX3 yX3_growPalms yX3_growPalms ∈ mW := mWin 276 (by decide +kernel) (by decide +kernel)
theorem qC_X3_growPalms : Cond.code yX3_growPalms prog_5_method_9_code 4 (Option.none : Option Jvm.ClassFile.FieldType) ∈ mW := mWin 277 (by decide +kernel) (by decide +kernel)
theorem qL_X3_68 : Cond.methodLink RX3 68 (⟨"java/lang/Math", "min", "(II)I"⟩ : MethodName) ∈ mW := mWin 278 (by decide +kernel) (by decide +kernel)
theorem qL_X3_71 : Cond.methodLink RX3 71 (⟨"java/lang/Math", "max", "(II)I"⟩ : MethodName) ∈ mW := mWin 279 (by decide +kernel) (by decide +kernel)
theorem qL_X2_76 : Cond.methodLink RX2 76 yX4_reap ∈ mW := mWin 280 (by decide +kernel) (by decide +kernel)
theorem qI_X4_reap : Cond.instanceMethod yX4_reap ∈ mW := mWin 281 (by decide +kernel) (by decide +kernel)
theorem qS_X4_reap : Cond.selects RX4 yX4_reap yX4_reap ∈ mW := mWin 282 (by decide +kernel) (by decide +kernel)
theorem qC_X4_reap : Cond.code yX4_reap prog_6_method_21_code 3 (Option.some Jvm.ClassFile.FieldType.int) ∈ mW := mWin 283 (by decide +kernel) (by decide +kernel)
theorem qL_X4_82 : Cond.methodLink RX4 82 yX3_reap ∈ mW := mWin 284 (by decide +kernel) (by decide +kernel)
theorem qI_X3_reap : Cond.instanceMethod yX3_reap ∈ mW := mWin 285 (by decide +kernel) (by decide +kernel)
theorem qS_X3_reap : Cond.selects RX3 yX3_reap yX3_reap ∈ mW := mWin 286 (by decide +kernel) (by decide +kernel)
theorem qC_X3_reap : Cond.code yX3_reap prog_5_method_10_code 1 (Option.none : Option Jvm.ClassFile.FieldType) ∈ mW := mWin 287 (by decide +kernel) (by decide +kernel)
theorem qL_X2_79 : Cond.methodLink RX2 79 yX2_deliverSales ∈ mW := mWin 288 (by decide +kernel) (by decide +kernel)
theorem qI_X2_deliverSales : Cond.instanceMethod yX2_deliverSales ∈ mW := mWin 290 (by decide +kernel) (by decide +kernel)
theorem qC_X2_deliverSales : Cond.code yX2_deliverSales prog_4_method_10_code 6 (Option.none : Option Jvm.ClassFile.FieldType) ∈ mW := mWin 291 (by decide +kernel) (by decide +kernel)
theorem qL_X2_142 : Cond.methodLink RX2 142 yX3_payTo ∈ mW := mWin 292 (by decide +kernel) (by decide +kernel)
theorem qL_X2_146 : Cond.methodLink RX2 146 yX1_clear ∈ mW := mWin 293 (by decide +kernel) (by decide +kernel)
theorem qI_X1_clear : Cond.instanceMethod yX1_clear ∈ mW := mWin 294 (by decide +kernel) (by decide +kernel)
theorem qS_X1_clear : Cond.selects RX1 yX1_clear yX1_clear ∈ mW := mWin 295 (by decide +kernel) (by decide +kernel)
theorem qC_X1_clear : Cond.code yX1_clear prog_3_method_8_code 1 (Option.none : Option Jvm.ClassFile.FieldType) ∈ mW := mWin 296 (by decide +kernel) (by decide +kernel)
theorem qL_X2_82 : Cond.methodLink RX2 82 yX1_shorten ∈ mW := mWin 297 (by decide +kernel) (by decide +kernel)
theorem qI_X1_shorten : Cond.instanceMethod yX1_shorten ∈ mW := mWin 298 (by decide +kernel) (by decide +kernel)
theorem qS_X1_shorten : Cond.selects RX1 yX1_shorten yX1_shorten ∈ mW := mWin 299 (by decide +kernel) (by decide +kernel)
theorem qC_X1_shorten : Cond.code yX1_shorten prog_3_method_10_code 4 (Option.none : Option Jvm.ClassFile.FieldType) ∈ mW := mWin 300 (by decide +kernel) (by decide +kernel)
theorem qL_X1_27 : Cond.methodLink RX1 27 yX1_moveTo ∈ mW := mWin 301 (by decide +kernel) (by decide +kernel)
theorem qI_X1_moveTo : Cond.instanceMethod yX1_moveTo ∈ mW := mWin 303 (by decide +kernel) (by decide +kernel)
theorem qC_X1_moveTo : Cond.code yX1_moveTo prog_3_method_12_code 4 (Option.none : Option Jvm.ClassFile.FieldType) ∈ mW := mWin 304 (by decide +kernel) (by decide +kernel)
theorem qL_L_68 : Cond.methodLink RL 68 yX5_of ∈ mW := mWin 305 (by decide +kernel) (by decide +kernel)
theorem qI_X5_of : Cond.instanceMethod yX5_of ∈ mW := mWin 306 (by decide +kernel) (by decide +kernel)
theorem qS_X5_of : Cond.selects RX5 yX5_of yX5_of ∈ mW := mWin 307 (by decide +kernel) (by decide +kernel)
theorem qC_X5_of : Cond.code yX5_of prog_1_method_14_code 3 (Option.some Jvm.ClassFile.FieldType.int) ∈ mW := mWin 308 (by decide +kernel) (by decide +kernel)
theorem qL_X5_146 : Cond.methodLink RX5 146 yX2_askOwner ∈ mW := mWin 309 (by decide +kernel) (by decide +kernel)
theorem qI_X2_askOwner : Cond.instanceMethod yX2_askOwner ∈ mW := mWin 310 (by decide +kernel) (by decide +kernel)
theorem qS_X2_askOwner : Cond.selects RX2 yX2_askOwner yX2_askOwner ∈ mW := mWin 311 (by decide +kernel) (by decide +kernel)
theorem qC_X2_askOwner : Cond.code yX2_askOwner prog_4_method_14_code 3 (Option.some Jvm.ClassFile.FieldType.int) ∈ mW := mWin 312 (by decide +kernel) (by decide +kernel)
theorem qL_X2_189 : Cond.methodLink RX2 189 yX4_placeOf ∈ mW := mWin 313 (by decide +kernel) (by decide +kernel)
theorem qI_X4_placeOf : Cond.instanceMethod yX4_placeOf ∈ mW := mWin 314 (by decide +kernel) (by decide +kernel)
theorem qS_X4_placeOf : Cond.selects RX4 yX4_placeOf yX4_placeOf ∈ mW := mWin 315 (by decide +kernel) (by decide +kernel)
theorem qC_X4_placeOf : Cond.code yX4_placeOf prog_6_method_12_code 3 (Option.some Jvm.ClassFile.FieldType.int) ∈ mW := mWin 316 (by decide +kernel) (by decide +kernel)
theorem qL_X2_170 : Cond.methodLink RX2 170 yX4_firstBowl ∈ mW := mWin 317 (by decide +kernel) (by decide +kernel)
theorem qI_X4_firstBowl : Cond.instanceMethod yX4_firstBowl ∈ mW := mWin 318 (by decide +kernel) (by decide +kernel)
theorem qS_X4_firstBowl : Cond.selects RX4 yX4_firstBowl yX4_firstBowl ∈ mW := mWin 319 (by decide +kernel) (by decide +kernel)
theorem qC_X4_firstBowl : Cond.code yX4_firstBowl prog_6_method_13_code 4 (Option.some Jvm.ClassFile.FieldType.int) ∈ mW := mWin 320 (by decide +kernel) (by decide +kernel)
theorem qL_X2_192 : Cond.methodLink RX2 192 yX2_unlentBowls ∈ mW := mWin 321 (by decide +kernel) (by decide +kernel)
theorem qL_X2_198 : Cond.methodLink RX2 198 yX3_pollenPalms ∈ mW := mWin 322 (by decide +kernel) (by decide +kernel)
theorem qL_L_36 : Cond.methodLink RL 36 yX5_many ∈ mW := mWin 323 (by decide +kernel) (by decide +kernel)
theorem qI_X5_many : Cond.instanceMethod yX5_many ∈ mW := mWin 324 (by decide +kernel) (by decide +kernel)
theorem qS_X5_many : Cond.selects RX5 yX5_many yX5_many ∈ mW := mWin 325 (by decide +kernel) (by decide +kernel)
theorem qC_X5_many : Cond.code yX5_many prog_1_method_18_code 2 (Option.some Jvm.ClassFile.FieldType.int) ∈ mW := mWin 326 (by decide +kernel) (by decide +kernel)
theorem qL_X5_163 : Cond.methodLink RX5 163 yX2_askAll ∈ mW := mWin 327 (by decide +kernel) (by decide +kernel)
theorem qI_X2_askAll : Cond.instanceMethod yX2_askAll ∈ mW := mWin 328 (by decide +kernel) (by decide +kernel)
theorem qS_X2_askAll : Cond.selects RX2 yX2_askAll yX2_askAll ∈ mW := mWin 329 (by decide +kernel) (by decide +kernel)
theorem qC_X2_askAll : Cond.code yX2_askAll prog_4_method_15_code 2 (Option.some Jvm.ClassFile.FieldType.int) ∈ mW := mWin 330 (by decide +kernel) (by decide +kernel)
theorem qL_X2_216 : Cond.methodLink RX2 216 yX4_countEver ∈ mW := mWin 331 (by decide +kernel) (by decide +kernel)
theorem qI_X4_countEver : Cond.instanceMethod yX4_countEver ∈ mW := mWin 332 (by decide +kernel) (by decide +kernel)
theorem qS_X4_countEver : Cond.selects RX4 yX4_countEver yX4_countEver ∈ mW := mWin 333 (by decide +kernel) (by decide +kernel)
theorem qC_X4_countEver : Cond.code yX4_countEver prog_6_method_8_code 1 (Option.some Jvm.ClassFile.FieldType.int) ∈ mW := mWin 334 (by decide +kernel) (by decide +kernel)
theorem qL_X2_219 : Cond.methodLink RX2 219 yX4_commonBowls ∈ mW := mWin 335 (by decide +kernel) (by decide +kernel)
theorem qI_X4_commonBowls : Cond.instanceMethod yX4_commonBowls ∈ mW := mWin 336 (by decide +kernel) (by decide +kernel)
theorem qS_X4_commonBowls : Cond.selects RX4 yX4_commonBowls yX4_commonBowls ∈ mW := mWin 337 (by decide +kernel) (by decide +kernel)
theorem qC_X4_commonBowls : Cond.code yX4_commonBowls prog_6_method_16_code 1 (Option.some Jvm.ClassFile.FieldType.int) ∈ mW := mWin 338 (by decide +kernel) (by decide +kernel)
theorem qL_X4_68 : Cond.methodLink RX4 68 yX4_ownedBowls ∈ mW := mWin 339 (by decide +kernel) (by decide +kernel)
theorem qI_X4_ownedBowls : Cond.instanceMethod yX4_ownedBowls ∈ mW := mWin 340 (by decide +kernel) (by decide +kernel)
theorem qS_X4_ownedBowls : Cond.selects RX4 yX4_ownedBowls yX4_ownedBowls ∈ mW := mWin 341 (by decide +kernel) (by decide +kernel)
theorem qC_X4_ownedBowls : Cond.code yX4_ownedBowls prog_6_method_15_code 3 (Option.some Jvm.ClassFile.FieldType.int) ∈ mW := mWin 342 (by decide +kernel) (by decide +kernel)
theorem qL_X2_222 : Cond.methodLink RX2 222 yX4_sumOfCoins ∈ mW := mWin 343 (by decide +kernel) (by decide +kernel)
theorem qI_X4_sumOfCoins : Cond.instanceMethod yX4_sumOfCoins ∈ mW := mWin 344 (by decide +kernel) (by decide +kernel)
theorem qS_X4_sumOfCoins : Cond.selects RX4 yX4_sumOfCoins yX4_sumOfCoins ∈ mW := mWin 345 (by decide +kernel) (by decide +kernel)
theorem qC_X4_sumOfCoins : Cond.code yX4_sumOfCoins prog_6_method_17_code 3 (Option.some Jvm.ClassFile.FieldType.int) ∈ mW := mWin 346 (by decide +kernel) (by decide +kernel)
theorem qL_L_46 : Cond.methodLink RL 46 yX5_wouldCome ∈ mW := mWin 347 (by decide +kernel) (by decide +kernel)
theorem qI_X5_wouldCome : Cond.instanceMethod yX5_wouldCome ∈ mW := mWin 348 (by decide +kernel) (by decide +kernel)
theorem qS_X5_wouldCome : Cond.selects RX5 yX5_wouldCome yX5_wouldCome ∈ mW := mWin 349 (by decide +kernel) (by decide +kernel)
theorem qC_X5_wouldCome : Cond.code yX5_wouldCome prog_1_method_20_code 4 (Option.some Jvm.ClassFile.FieldType.int) ∈ mW := mWin 350 (by decide +kernel) (by decide +kernel)
theorem qL_X5_172 : Cond.methodLink RX5 172 yX5_imagineLater ∈ mW := mWin 351 (by decide +kernel) (by decide +kernel)
theorem qI_X5_imagineLater : Cond.instanceMethod yX5_imagineLater ∈ mW := mWin 353 (by decide +kernel) (by decide +kernel)
theorem qC_X5_imagineLater : Cond.code yX5_imagineLater prog_1_method_26_code 3 (Option.none : Option Jvm.ClassFile.FieldType) ∈ mW := mWin 354 (by decide +kernel) (by decide +kernel)
theorem qL_X5_179 : Cond.methodLink RX5 179 yX2_becomeLike ∈ mW := mWin 355 (by decide +kernel) (by decide +kernel)
theorem qI_X2_becomeLike : Cond.instanceMethod yX2_becomeLike ∈ mW := mWin 356 (by decide +kernel) (by decide +kernel)
theorem qS_X2_becomeLike : Cond.selects RX2 yX2_becomeLike yX2_becomeLike ∈ mW := mWin 357 (by decide +kernel) (by decide +kernel)
theorem qC_X2_becomeLike : Cond.code yX2_becomeLike prog_4_method_2_code 2 (Option.none : Option Jvm.ClassFile.FieldType) ∈ mW := mWin 358 (by decide +kernel) (by decide +kernel)
theorem qL_X2_35 : Cond.methodLink RX2 35 yX0_becomeLike ∈ mW := mWin 359 (by decide +kernel) (by decide +kernel)
theorem qI_X0_becomeLike : Cond.instanceMethod yX0_becomeLike ∈ mW := mWin 360 (by decide +kernel) (by decide +kernel)
theorem qS_X0_becomeLike : Cond.selects RX0 yX0_becomeLike yX0_becomeLike ∈ mW := mWin 361 (by decide +kernel) (by decide +kernel)
theorem qC_X0_becomeLike : Cond.code yX0_becomeLike prog_2_method_2_code 2 (Option.none : Option Jvm.ClassFile.FieldType) ∈ mW := mWin 362 (by decide +kernel) (by decide +kernel)
theorem qL_X2_39 : Cond.methodLink RX2 39 yX4_becomeLike ∈ mW := mWin 363 (by decide +kernel) (by decide +kernel)
theorem qI_X4_becomeLike : Cond.instanceMethod yX4_becomeLike ∈ mW := mWin 364 (by decide +kernel) (by decide +kernel)
theorem qS_X4_becomeLike : Cond.selects RX4 yX4_becomeLike yX4_becomeLike ∈ mW := mWin 365 (by decide +kernel) (by decide +kernel)
theorem qC_X4_becomeLike : Cond.code yX4_becomeLike prog_6_method_2_code 3 (Option.none : Option Jvm.ClassFile.FieldType) ∈ mW := mWin 366 (by decide +kernel) (by decide +kernel)
theorem qL_X4_32 : Cond.methodLink RX4 32 yX3_becomeLike ∈ mW := mWin 367 (by decide +kernel) (by decide +kernel)
theorem qI_X3_becomeLike : Cond.instanceMethod yX3_becomeLike ∈ mW := mWin 368 (by decide +kernel) (by decide +kernel)
theorem qS_X3_becomeLike : Cond.selects RX3 yX3_becomeLike yX3_becomeLike ∈ mW := mWin 369 (by decide +kernel) (by decide +kernel)
theorem qC_X3_becomeLike : Cond.code yX3_becomeLike prog_5_method_2_code 2 (Option.none : Option Jvm.ClassFile.FieldType) ∈ mW := mWin 370 (by decide +kernel) (by decide +kernel)
theorem qL_X4_46 : Cond.methodLink RX4 46 yX4_putAt ∈ mW := mWin 371 (by decide +kernel) (by decide +kernel)
theorem qI_X4_putAt : Cond.instanceMethod yX4_putAt ∈ mW := mWin 373 (by decide +kernel) (by decide +kernel)
theorem qN_X4 : Cond.instantiable RX4 5 ∈ mW := mWin 374 (by decide +kernel) (by decide +kernel)
theorem qC_X4_putAt : Cond.code yX4_putAt prog_6_method_5_code 3 (Option.none : Option Jvm.ClassFile.FieldType) ∈ mW := mWin 375 (by decide +kernel) (by decide +kernel)
theorem qL_X2_42 : Cond.methodLink RX2 42 yX1_becomeLike ∈ mW := mWin 376 (by decide +kernel) (by decide +kernel)
theorem qI_X1_becomeLike : Cond.instanceMethod yX1_becomeLike ∈ mW := mWin 377 (by decide +kernel) (by decide +kernel)
theorem qS_X1_becomeLike : Cond.selects RX1 yX1_becomeLike yX1_becomeLike ∈ mW := mWin 378 (by decide +kernel) (by decide +kernel)
theorem qC_X1_becomeLike : Cond.code yX1_becomeLike prog_3_method_2_code 4 (Option.none : Option Jvm.ClassFile.FieldType) ∈ mW := mWin 379 (by decide +kernel) (by decide +kernel)
theorem qL_X5_176 : Cond.methodLink RX5 176 yX5_cameUntilLater ∈ mW := mWin 380 (by decide +kernel) (by decide +kernel)
theorem qI_X5_cameUntilLater : Cond.instanceMethod yX5_cameUntilLater ∈ mW := mWin 382 (by decide +kernel) (by decide +kernel)
theorem qC_X5_cameUntilLater : Cond.code yX5_cameUntilLater prog_1_method_27_code 2 (Option.some Jvm.ClassFile.FieldType.int) ∈ mW := mWin 383 (by decide +kernel) (by decide +kernel)
theorem qL_L_50 : Cond.methodLink RL 50 yX5_bestDig ∈ mW := mWin 384 (by decide +kernel) (by decide +kernel)
theorem qI_X5_bestDig : Cond.instanceMethod yX5_bestDig ∈ mW := mWin 385 (by decide +kernel) (by decide +kernel)
theorem qS_X5_bestDig : Cond.selects RX5 yX5_bestDig yX5_bestDig ∈ mW := mWin 386 (by decide +kernel) (by decide +kernel)
theorem qC_X5_bestDig : Cond.code yX5_bestDig prog_1_method_21_code 7 (Option.some Jvm.ClassFile.FieldType.int) ∈ mW := mWin 387 (by decide +kernel) (by decide +kernel)
theorem qL_L_53 : Cond.methodLink RL 53 yX5_pumpTakes ∈ mW := mWin 388 (by decide +kernel) (by decide +kernel)
theorem qI_X5_pumpTakes : Cond.instanceMethod yX5_pumpTakes ∈ mW := mWin 389 (by decide +kernel) (by decide +kernel)
theorem qS_X5_pumpTakes : Cond.selects RX5 yX5_pumpTakes yX5_pumpTakes ∈ mW := mWin 390 (by decide +kernel) (by decide +kernel)
theorem qC_X5_pumpTakes : Cond.code yX5_pumpTakes prog_1_method_22_code 5 (Option.some Jvm.ClassFile.FieldType.int) ∈ mW := mWin 391 (by decide +kernel) (by decide +kernel)
theorem qL_L_56 : Cond.methodLink RL 56 yX5_wouldReap ∈ mW := mWin 392 (by decide +kernel) (by decide +kernel)
theorem qI_X5_wouldReap : Cond.instanceMethod yX5_wouldReap ∈ mW := mWin 393 (by decide +kernel) (by decide +kernel)
theorem qS_X5_wouldReap : Cond.selects RX5 yX5_wouldReap yX5_wouldReap ∈ mW := mWin 394 (by decide +kernel) (by decide +kernel)
theorem qC_X5_wouldReap : Cond.code yX5_wouldReap prog_1_method_23_code 3 (Option.some Jvm.ClassFile.FieldType.int) ∈ mW := mWin 395 (by decide +kernel) (by decide +kernel)
theorem qL_X5_183 : Cond.methodLink RX5 183 yX5_imagineHarvest ∈ mW := mWin 396 (by decide +kernel) (by decide +kernel)
theorem qI_X5_imagineHarvest : Cond.instanceMethod yX5_imagineHarvest ∈ mW := mWin 398 (by decide +kernel) (by decide +kernel)
theorem qC_X5_imagineHarvest : Cond.code yX5_imagineHarvest prog_1_method_28_code 2 (Option.none : Option Jvm.ClassFile.FieldType) ∈ mW := mWin 399 (by decide +kernel) (by decide +kernel)
theorem qL_X5_224 : Cond.methodLink RX5 224 yX2_daysToHarvest ∈ mW := mWin 400 (by decide +kernel) (by decide +kernel)
theorem qI_X2_daysToHarvest : Cond.instanceMethod yX2_daysToHarvest ∈ mW := mWin 401 (by decide +kernel) (by decide +kernel)
theorem qS_X2_daysToHarvest : Cond.selects RX2 yX2_daysToHarvest yX2_daysToHarvest ∈ mW := mWin 402 (by decide +kernel) (by decide +kernel)
theorem qC_X2_daysToHarvest : Cond.code yX2_daysToHarvest prog_4_method_4_code 2 (Option.some Jvm.ClassFile.FieldType.int) ∈ mW := mWin 403 (by decide +kernel) (by decide +kernel)
theorem qL_X5_186 : Cond.methodLink RX5 186 yX5_reapedAtHarvest ∈ mW := mWin 404 (by decide +kernel) (by decide +kernel)
theorem qI_X5_reapedAtHarvest : Cond.instanceMethod yX5_reapedAtHarvest ∈ mW := mWin 406 (by decide +kernel) (by decide +kernel)
theorem qC_X5_reapedAtHarvest : Cond.code yX5_reapedAtHarvest prog_1_method_29_code 2 (Option.some Jvm.ClassFile.FieldType.int) ∈ mW := mWin 407 (by decide +kernel) (by decide +kernel)
theorem qL_L_42 : Cond.methodLink RL 42 yX5_digest ∈ mW := mWin 408 (by decide +kernel) (by decide +kernel)
theorem qI_X5_digest : Cond.instanceMethod yX5_digest ∈ mW := mWin 409 (by decide +kernel) (by decide +kernel)
theorem qS_X5_digest : Cond.selects RX5 yX5_digest yX5_digest ∈ mW := mWin 410 (by decide +kernel) (by decide +kernel)
theorem qC_X5_digest : Cond.code yX5_digest prog_1_method_24_code 5 (Option.some Jvm.ClassFile.FieldType.long) ∈ mW := mWin 411 (by decide +kernel) (by decide +kernel)
theorem qG_X5_189 : Cond.constantLong RX5 189 (7803 : Int64) ∈ mW := mWin 412 (by decide +kernel) (by decide +kernel)
theorem qG_X5_191 : Cond.constantLong RX5 191 (31 : Int64) ∈ mW := mWin 413 (by decide +kernel) (by decide +kernel)
theorem qL_X5_193 : Cond.methodLink RX5 193 yX5_many ∈ mW := mWin 414 (by decide +kernel) (by decide +kernel)
theorem qL_X5_196 : Cond.methodLink RX5 196 yX5_digestOwners ∈ mW := mWin 415 (by decide +kernel) (by decide +kernel)
theorem qI_X5_digestOwners : Cond.instanceMethod yX5_digestOwners ∈ mW := mWin 417 (by decide +kernel) (by decide +kernel)
theorem qC_X5_digestOwners : Cond.code yX5_digestOwners prog_1_method_25_code 7 (Option.some Jvm.ClassFile.FieldType.long) ∈ mW := mWin 418 (by decide +kernel) (by decide +kernel)
theorem qL_X5_218 : Cond.methodLink RX5 218 yX5_of ∈ mW := mWin 419 (by decide +kernel) (by decide +kernel)
theorem qL_X5_200 : Cond.methodLink RX5 200 yX5_ofBowl ∈ mW := mWin 420 (by decide +kernel) (by decide +kernel)
theorem qI_X5_ofBowl : Cond.instanceMethod yX5_ofBowl ∈ mW := mWin 421 (by decide +kernel) (by decide +kernel)
theorem qS_X5_ofBowl : Cond.selects RX5 yX5_ofBowl yX5_ofBowl ∈ mW := mWin 422 (by decide +kernel) (by decide +kernel)
theorem qC_X5_ofBowl : Cond.code yX5_ofBowl prog_1_method_15_code 3 (Option.some Jvm.ClassFile.FieldType.int) ∈ mW := mWin 423 (by decide +kernel) (by decide +kernel)
theorem qL_X5_153 : Cond.methodLink RX5 153 yX4_holderOf ∈ mW := mWin 424 (by decide +kernel) (by decide +kernel)
theorem qI_X4_holderOf : Cond.instanceMethod yX4_holderOf ∈ mW := mWin 425 (by decide +kernel) (by decide +kernel)
theorem qS_X4_holderOf : Cond.selects RX4 yX4_holderOf yX4_holderOf ∈ mW := mWin 426 (by decide +kernel) (by decide +kernel)
theorem qC_X4_holderOf : Cond.code yX4_holderOf prog_6_method_14_code 4 (Option.some Jvm.ClassFile.FieldType.int) ∈ mW := mWin 427 (by decide +kernel) (by decide +kernel)
theorem qL_X5_157 : Cond.methodLink RX5 157 yX2_userOf ∈ mW := mWin 428 (by decide +kernel) (by decide +kernel)
theorem qI_X2_userOf : Cond.instanceMethod yX2_userOf ∈ mW := mWin 429 (by decide +kernel) (by decide +kernel)
theorem qS_X2_userOf : Cond.selects RX2 yX2_userOf yX2_userOf ∈ mW := mWin 430 (by decide +kernel) (by decide +kernel)
theorem qC_X2_userOf : Cond.code yX2_userOf prog_4_method_13_code 6 (Option.some Jvm.ClassFile.FieldType.int) ∈ mW := mWin 431 (by decide +kernel) (by decide +kernel)
theorem qL_X2_167 : Cond.methodLink RX2 167 yX4_holderOf ∈ mW := mWin 432 (by decide +kernel) (by decide +kernel)
theorem qL_X5_203 : Cond.methodLink RX5 203 yX5_ofLoan ∈ mW := mWin 433 (by decide +kernel) (by decide +kernel)
theorem qI_X5_ofLoan : Cond.instanceMethod yX5_ofLoan ∈ mW := mWin 434 (by decide +kernel) (by decide +kernel)
theorem qS_X5_ofLoan : Cond.selects RX5 yX5_ofLoan yX5_ofLoan ∈ mW := mWin 435 (by decide +kernel) (by decide +kernel)
theorem qC_X5_ofLoan : Cond.code yX5_ofLoan prog_1_method_16_code 3 (Option.some Jvm.ClassFile.FieldType.int) ∈ mW := mWin 436 (by decide +kernel) (by decide +kernel)
theorem qL_X5_160 : Cond.methodLink RX5 160 yX1_get ∈ mW := mWin 437 (by decide +kernel) (by decide +kernel)
theorem qL_X5_206 : Cond.methodLink RX5 206 yX5_ofSale ∈ mW := mWin 438 (by decide +kernel) (by decide +kernel)
theorem qI_X5_ofSale : Cond.instanceMethod yX5_ofSale ∈ mW := mWin 439 (by decide +kernel) (by decide +kernel)
theorem qS_X5_ofSale : Cond.selects RX5 yX5_ofSale yX5_ofSale ∈ mW := mWin 440 (by decide +kernel) (by decide +kernel)
theorem qC_X5_ofSale : Cond.code yX5_ofSale prog_1_method_17_code 3 (Option.some Jvm.ClassFile.FieldType.int) ∈ mW := mWin 441 (by decide +kernel) (by decide +kernel)
theorem qL_X5_209 : Cond.methodLink RX5 209 yX5_bestDig ∈ mW := mWin 442 (by decide +kernel) (by decide +kernel)
theorem qL_X5_212 : Cond.methodLink RX5 212 yX5_pumpTakes ∈ mW := mWin 443 (by decide +kernel) (by decide +kernel)
theorem qK_L_9 : Cond.classLink RL 9 RX6 ∈ mW := mWin 444 (by decide +kernel) (by decide +kernel)
theorem qN_X6 : Cond.instantiable RX6 18 ∈ mW := mWin 445 (by decide +kernel) (by decide +kernel)
theorem qL_L_11 : Cond.methodLink RL 11 yX6_init ∈ mW := mWin 446 (by decide +kernel) (by decide +kernel)
theorem qI_X6_init : Cond.instanceMethod yX6_init ∈ mW := mWin 447 (by decide +kernel) (by decide +kernel)
theorem qC_X6_init : Cond.code yX6_init prog_8_method_1_code 3 (Option.none : Option Jvm.ClassFile.FieldType) ∈ mW := mWin 448 (by decide +kernel) (by decide +kernel)
theorem qL_X6_1 : Cond.methodLink RX6 1 (⟨"java/lang/Object", "<init>", "()V"⟩ : MethodName) ∈ mW := mWin 449 (by decide +kernel) (by decide +kernel)
theorem qK_X6_7 : Cond.classLink RX6 7 RX5 ∈ mW := mWin 450 (by decide +kernel) (by decide +kernel)
theorem qL_X6_9 : Cond.methodLink RX6 9 yX5_init ∈ mW := mWin 451 (by decide +kernel) (by decide +kernel)
theorem qI_X5_init : Cond.instanceMethod yX5_init ∈ mW := mWin 452 (by decide +kernel) (by decide +kernel)
theorem qC_X5_init : Cond.code yX5_init prog_1_method_1_code 1 (Option.none : Option Jvm.ClassFile.FieldType) ∈ mW := mWin 453 (by decide +kernel) (by decide +kernel)
theorem qL_X5_1 : Cond.methodLink RX5 1 (⟨"java/lang/Object", "<init>", "()V"⟩ : MethodName) ∈ mW := mWin 454 (by decide +kernel) (by decide +kernel)
theorem qK_X5_7 : Cond.classLink RX5 7 RX2 ∈ mW := mWin 455 (by decide +kernel) (by decide +kernel)
theorem qI_X2_init : Cond.instanceMethod yX2_init ∈ mW := mWin 457 (by decide +kernel) (by decide +kernel)
theorem qC_X2_init : Cond.code yX2_init prog_4_method_1_code 1 (Option.none : Option Jvm.ClassFile.FieldType) ∈ mW := mWin 458 (by decide +kernel) (by decide +kernel)
theorem qL_X2_3 : Cond.methodLink RX2 3 (⟨"java/lang/Object", "<init>", "()V"⟩ : MethodName) ∈ mW := mWin 459 (by decide +kernel) (by decide +kernel)
theorem qK_X2_9 : Cond.classLink RX2 9 RX0 ∈ mW := mWin 460 (by decide +kernel) (by decide +kernel)
theorem qN_X0 : Cond.instantiable RX0 4 ∈ mW := mWin 461 (by decide +kernel) (by decide +kernel)
theorem qI_X0_init : Cond.instanceMethod yX0_init ∈ mW := mWin 463 (by decide +kernel) (by decide +kernel)
theorem qC_X0_init : Cond.code yX0_init prog_2_method_1_code 1 (Option.none : Option Jvm.ClassFile.FieldType) ∈ mW := mWin 464 (by decide +kernel) (by decide +kernel)
theorem qL_X0_3 : Cond.methodLink RX0 3 (⟨"java/lang/Object", "<init>", "()V"⟩ : MethodName) ∈ mW := mWin 465 (by decide +kernel) (by decide +kernel)
theorem qF_X0_9 : Cond.fieldLink RX0 9 "OasisBooks$Channel" "table" "I" ∈ mW := mWin 466 (by decide +kernel) (by decide +kernel)
theorem qF_X0_15 : Cond.fieldLink RX0 15 "OasisBooks$Channel" "length" "I" ∈ mW := mWin 468 (by decide +kernel) (by decide +kernel)
theorem qF_X0_18 : Cond.fieldLink RX0 18 "OasisBooks$Channel" "mud" "I" ∈ mW := mWin 471 (by decide +kernel) (by decide +kernel)
theorem qF_X0_21 : Cond.fieldLink RX0 21 "OasisBooks$Channel" "draw" "I" ∈ mW := mWin 473 (by decide +kernel) (by decide +kernel)
theorem qK_X2_18 : Cond.classLink RX2 18 RX4 ∈ mW := mWin 485 (by decide +kernel) (by decide +kernel)
theorem qL_X2_20 : Cond.methodLink RX2 20 yX4_init ∈ mW := mWin 486 (by decide +kernel) (by decide +kernel)
theorem qI_X4_init : Cond.instanceMethod yX4_init ∈ mW := mWin 487 (by decide +kernel) (by decide +kernel)
theorem qC_X4_init : Cond.code yX4_init prog_6_method_1_code 2 (Option.none : Option Jvm.ClassFile.FieldType) ∈ mW := mWin 488 (by decide +kernel) (by decide +kernel)
theorem qL_X4_3 : Cond.methodLink RX4 3 (⟨"java/lang/Object", "<init>", "()V"⟩ : MethodName) ∈ mW := mWin 489 (by decide +kernel) (by decide +kernel)
theorem qK_X4_9 : Cond.classLink RX4 9 RX3 ∈ mW := mWin 490 (by decide +kernel) (by decide +kernel)
theorem qN_X3 : Cond.instantiable RX3 15 ∈ mW := mWin 492 (by decide +kernel) (by decide +kernel)
theorem qL_X4_21 : Cond.methodLink RX4 21 yX3_init ∈ mW := mWin 493 (by decide +kernel) (by decide +kernel)
theorem qI_X3_init : Cond.instanceMethod yX3_init ∈ mW := mWin 494 (by decide +kernel) (by decide +kernel)
theorem qC_X3_init : Cond.code yX3_init prog_5_method_1_code 2 (Option.none : Option Jvm.ClassFile.FieldType) ∈ mW := mWin 495 (by decide +kernel) (by decide +kernel)
theorem qL_X3_3 : Cond.methodLink RX3 3 (⟨"java/lang/Object", "<init>", "()V"⟩ : MethodName) ∈ mW := mWin 496 (by decide +kernel) (by decide +kernel)
theorem qF_X3_9 : Cond.fieldLink RX3 9 "OasisBooks$Owner" "number" "I" ∈ mW := mWin 497 (by decide +kernel) (by decide +kernel)
theorem qF_X3_15 : Cond.fieldLink RX3 15 "OasisBooks$Owner" "lives" "Z" ∈ mW := mWin 500 (by decide +kernel) (by decide +kernel)
theorem qF_X3_19 : Cond.fieldLink RX3 19 "OasisBooks$Owner" "bowls" "I" ∈ mW := mWin 502 (by decide +kernel) (by decide +kernel)
theorem qF_X3_22 : Cond.fieldLink RX3 22 "OasisBooks$Owner" "coins" "I" ∈ mW := mWin 506 (by decide +kernel) (by decide +kernel)
theorem qF_X3_25 : Cond.fieldLink RX3 25 "OasisBooks$Owner" "palms" "I" ∈ mW := mWin 510 (by decide +kernel) (by decide +kernel)
theorem qF_X3_28 : Cond.fieldLink RX3 28 "OasisBooks$Owner" "males" "I" ∈ mW := mWin 513 (by decide +kernel) (by decide +kernel)
theorem qF_X3_31 : Cond.fieldLink RX3 31 "OasisBooks$Owner" "moist" "I" ∈ mW := mWin 515 (by decide +kernel) (by decide +kernel)
theorem qF_X3_34 : Cond.fieldLink RX3 34 "OasisBooks$Owner" "salt" "I" ∈ mW := mWin 517 (by decide +kernel) (by decide +kernel)
theorem qF_X3_37 : Cond.fieldLink RX3 37 "OasisBooks$Owner" "dates" "I" ∈ mW := mWin 519 (by decide +kernel) (by decide +kernel)
theorem qF_X3_40 : Cond.fieldLink RX3 40 "OasisBooks$Owner" "pollinated" "I" ∈ mW := mWin 521 (by decide +kernel) (by decide +kernel)
theorem qF_X3_43 : Cond.fieldLink RX3 43 "OasisBooks$Owner" "boughtPollen" "I" ∈ mW := mWin 524 (by decide +kernel) (by decide +kernel)
theorem qF_X3_46 : Cond.fieldLink RX3 46 "OasisBooks$Owner" "flowing" "I" ∈ mW := mWin 525 (by decide +kernel) (by decide +kernel)
theorem qF_X3_49 : Cond.fieldLink RX3 49 "OasisBooks$Owner" "cameLatest" "I" ∈ mW := mWin 527 (by decide +kernel) (by decide +kernel)
theorem qF_X3_52 : Cond.fieldLink RX3 52 "OasisBooks$Owner" "cameEver" "I" ∈ mW := mWin 529 (by decide +kernel) (by decide +kernel)
theorem qF_X3_55 : Cond.fieldLink RX3 55 "OasisBooks$Owner" "reaped" "I" ∈ mW := mWin 532 (by decide +kernel) (by decide +kernel)
theorem qarrayClass_566 : Cond.arrayClass Jvm.ClassFile.FieldType.int ∈ mW := mWin 566 (by decide +kernel) (by decide +kernel)
theorem qF_X4_11 : Cond.fieldLink RX4 11 "OasisBooks$People" "owners" "[LOasisBooks$Owner;" ∈ mW := mWin 567 (by decide +kernel) (by decide +kernel)
theorem qF_X4_17 : Cond.fieldLink RX4 17 "OasisBooks$People" "row" "[I" ∈ mW := mWin 568 (by decide +kernel) (by decide +kernel)
theorem qF_X4_24 : Cond.fieldLink RX4 24 "OasisBooks$People" "nobody" "LOasisBooks$Owner;" ∈ mW := mWin 569 (by decide +kernel) (by decide +kernel)
theorem qF_X4_50 : Cond.fieldLink RX4 50 "OasisBooks$People" "ever" "I" ∈ mW := mWin 570 (by decide +kernel) (by decide +kernel)
theorem qF_X4_36 : Cond.fieldLink RX4 36 "OasisBooks$People" "living" "I" ∈ mW := mWin 571 (by decide +kernel) (by decide +kernel)
theorem qK_X2_25 : Cond.classLink RX2 25 RX1 ∈ mW := mWin 583 (by decide +kernel) (by decide +kernel)
theorem qI_X1_init : Cond.instanceMethod yX1_init ∈ mW := mWin 585 (by decide +kernel) (by decide +kernel)
theorem qC_X1_init : Cond.code yX1_init prog_3_method_1_code 1 (Option.none : Option Jvm.ClassFile.FieldType) ∈ mW := mWin 586 (by decide +kernel) (by decide +kernel)
theorem qL_X1_3 : Cond.methodLink RX1 3 (⟨"java/lang/Object", "<init>", "()V"⟩ : MethodName) ∈ mW := mWin 587 (by decide +kernel) (by decide +kernel)
theorem qF_X1_11 : Cond.fieldLink RX1 11 "OasisBooks$Deals" "cells" "[I" ∈ mW := mWin 588 (by decide +kernel) (by decide +kernel)
theorem qF_X1_15 : Cond.fieldLink RX1 15 "OasisBooks$Deals" "count" "I" ∈ mW := mWin 589 (by decide +kernel) (by decide +kernel)
theorem qF_X2_12 : Cond.fieldLink RX2 12 "OasisBooks$Oasis" "channel" "LOasisBooks$Channel;" ∈ mW := mWin 595 (by decide +kernel) (by decide +kernel)
theorem qF_X2_21 : Cond.fieldLink RX2 21 "OasisBooks$Oasis" "people" "LOasisBooks$People;" ∈ mW := mWin 597 (by decide +kernel) (by decide +kernel)
theorem qF_X2_28 : Cond.fieldLink RX2 28 "OasisBooks$Oasis" "loans" "LOasisBooks$Deals;" ∈ mW := mWin 599 (by decide +kernel) (by decide +kernel)
theorem qF_X2_32 : Cond.fieldLink RX2 32 "OasisBooks$Oasis" "sales" "LOasisBooks$Deals;" ∈ mW := mWin 601 (by decide +kernel) (by decide +kernel)
theorem qF_X2_45 : Cond.fieldLink RX2 45 "OasisBooks$Oasis" "day" "I" ∈ mW := mWin 603 (by decide +kernel) (by decide +kernel)
theorem qF_X2_49 : Cond.fieldLink RX2 49 "OasisBooks$Oasis" "letOut" "I" ∈ mW := mWin 605 (by decide +kernel) (by decide +kernel)
theorem qF_X2_52 : Cond.fieldLink RX2 52 "OasisBooks$Oasis" "lost" "I" ∈ mW := mWin 606 (by decide +kernel) (by decide +kernel)
theorem qF_X2_55 : Cond.fieldLink RX2 55 "OasisBooks$Oasis" "harvested" "I" ∈ mW := mWin 607 (by decide +kernel) (by decide +kernel)
theorem qF_X5_10 : Cond.fieldLink RX5 10 "OasisBooks" "now" "LOasisBooks$Oasis;" ∈ mW := mWin 625 (by decide +kernel) (by decide +kernel)
theorem qF_X5_16 : Cond.fieldLink RX5 16 "OasisBooks" "later" "LOasisBooks$Oasis;" ∈ mW := mWin 626 (by decide +kernel) (by decide +kernel)
theorem qF_X5_19 : Cond.fieldLink RX5 19 "OasisBooks" "atHarvest" "LOasisBooks$Oasis;" ∈ mW := mWin 627 (by decide +kernel) (by decide +kernel)
theorem qK_X6_16 : Cond.classLink RX6 16 "[[I" ∈ mW := mWin 635 (by decide +kernel) (by decide +kernel)
theorem qK_X6_31 : Cond.classLink RX6 31 "[I" ∈ mW := mWin 637 (by decide +kernel) (by decide +kernel)
theorem qF_X6_10 : Cond.fieldLink RX6 10 "OasisBooksLaw$Told" "m" "LOasisBooks;" ∈ mW := mWin 638 (by decide +kernel) (by decide +kernel)
theorem qF_L_14 : Cond.fieldLink RL 14 "OasisBooksLaw$Told" "m" "LOasisBooks;" ∈ mW := mWin 639 (by decide +kernel) (by decide +kernel)
theorem qF_X6_45 : Cond.fieldLink RX6 45 "OasisBooksLaw$Told" "s" "[I" ∈ mW := mWin 640 (by decide +kernel) (by decide +kernel)
theorem qF_X6_48 : Cond.fieldLink RX6 48 "OasisBooksLaw$Told" "draws" "I" ∈ mW := mWin 641 (by decide +kernel) (by decide +kernel)
theorem qF_X6_18 : Cond.fieldLink RX6 18 "OasisBooksLaw$Told" "o" "[[I" ∈ mW := mWin 642 (by decide +kernel) (by decide +kernel)
theorem qF_X6_67 : Cond.fieldLink RX6 67 "OasisBooksLaw$Told" "ever" "I" ∈ mW := mWin 643 (by decide +kernel) (by decide +kernel)
theorem qF_X6_21 : Cond.fieldLink RX6 21 "OasisBooksLaw$Told" "row" "[I" ∈ mW := mWin 644 (by decide +kernel) (by decide +kernel)
theorem qF_X6_25 : Cond.fieldLink RX6 25 "OasisBooksLaw$Told" "whose" "[I" ∈ mW := mWin 645 (by decide +kernel) (by decide +kernel)
theorem qF_X6_28 : Cond.fieldLink RX6 28 "OasisBooksLaw$Told" "users" "[I" ∈ mW := mWin 646 (by decide +kernel) (by decide +kernel)
theorem qF_X6_32 : Cond.fieldLink RX6 32 "OasisBooksLaw$Told" "loans" "[[I" ∈ mW := mWin 647 (by decide +kernel) (by decide +kernel)
theorem qF_X6_35 : Cond.fieldLink RX6 35 "OasisBooksLaw$Told" "sales" "[[I" ∈ mW := mWin 648 (by decide +kernel) (by decide +kernel)
theorem qF_X6_38 : Cond.fieldLink RX6 38 "OasisBooksLaw$Told" "table" "I" ∈ mW := mWin 649 (by decide +kernel) (by decide +kernel)
theorem qF_X6_42 : Cond.fieldLink RX6 42 "OasisBooksLaw$Told" "length" "I" ∈ mW := mWin 650 (by decide +kernel) (by decide +kernel)
theorem qL_L_22 : Cond.methodLink RL 22 yX6_draw ∈ mW := mWin 688 (by decide +kernel) (by decide +kernel)
theorem qI_X6_draw : Cond.instanceMethod yX6_draw ∈ mW := mWin 689 (by decide +kernel) (by decide +kernel)
theorem qS_X6_draw : Cond.selects RX6 yX6_draw yX6_draw ∈ mW := mWin 690 (by decide +kernel) (by decide +kernel)
theorem qC_X6_draw : Cond.code yX6_draw prog_8_method_2_code 3 (Option.some Jvm.ClassFile.FieldType.int) ∈ mW := mWin 691 (by decide +kernel) (by decide +kernel)
theorem qT_L_cell : Cond.static yL_cell ∈ mW := mWin 693 (by decide +kernel) (by decide +kernel)
theorem qC_L_cell : Cond.code yL_cell method_3_code 2 (Option.some Jvm.ClassFile.FieldType.int) ∈ mW := mWin 694 (by decide +kernel) (by decide +kernel)
theorem qT_L_below : Cond.static yL_below ∈ mW := mWin 697 (by decide +kernel) (by decide +kernel)
theorem qC_L_below : Cond.code yL_below method_2_code 2 (Option.some Jvm.ClassFile.FieldType.int) ∈ mW := mWin 698 (by decide +kernel) (by decide +kernel)
theorem qL_L_18 : Cond.methodLink RL 18 yX6_found ∈ mW := mWin 700 (by decide +kernel) (by decide +kernel)
theorem qI_X6_found : Cond.instanceMethod yX6_found ∈ mW := mWin 701 (by decide +kernel) (by decide +kernel)
theorem qS_X6_found : Cond.selects RX6 yX6_found yX6_found ∈ mW := mWin 702 (by decide +kernel) (by decide +kernel)
theorem qC_X6_found : Cond.code yX6_found prog_8_method_13_code 3 (Option.some Jvm.ClassFile.FieldType.boolean) ∈ mW := mWin 703 (by decide +kernel) (by decide +kernel)
theorem qL_X6_110 : Cond.methodLink RX6 110 yX6_draw ∈ mW := mWin 704 (by decide +kernel) (by decide +kernel)
theorem qL_X6_113 : Cond.methodLink RX6 113 yX6_owner ∈ mW := mWin 705 (by decide +kernel) (by decide +kernel)
theorem qI_X6_owner : Cond.instanceMethod yX6_owner ∈ mW := mWin 706 (by decide +kernel) (by decide +kernel)
theorem qS_X6_owner : Cond.selects RX6 yX6_owner yX6_owner ∈ mW := mWin 707 (by decide +kernel) (by decide +kernel)
theorem qC_X6_owner : Cond.code yX6_owner prog_8_method_4_code 7 (Option.some Jvm.ClassFile.FieldType.boolean) ∈ mW := mWin 708 (by decide +kernel) (by decide +kernel)
theorem qL_X6_61 : Cond.methodLink RX6 61 (⟨"java/lang/System", "arraycopy", "(Ljava/lang/Object;ILjava/lang/Object;II)V"⟩ : MethodName) ∈ mW := mWin 709 (by decide +kernel) (by decide +kernel)
theorem qT_System_arraycopy : Cond.static (⟨"java/lang/System", "arraycopy", "(Ljava/lang/Object;ILjava/lang/Object;II)V"⟩ : MethodName) ∈ mW := mWin 710 (by decide +kernel) (by decide +kernel)
theorem qV_System_arraycopy : Cond.native (⟨"java/lang/System", "arraycopy", "(Ljava/lang/Object;ILjava/lang/Object;II)V"⟩ : MethodName) ∈ mW := mWin 711 (by decide +kernel) (by decide +kernel)
theorem qL_X6_70 : Cond.methodLink RX6 70 yX5_owner ∈ mW := mWin 712 (by decide +kernel) (by decide +kernel)
theorem qI_X5_owner : Cond.instanceMethod yX5_owner ∈ mW := mWin 713 (by decide +kernel) (by decide +kernel)
theorem qS_X5_owner : Cond.selects RX5 yX5_owner yX5_owner ∈ mW := mWin 714 (by decide +kernel) (by decide +kernel)
theorem qC_X5_owner : Cond.code yX5_owner prog_1_method_2_code 5 (Option.some Jvm.ClassFile.FieldType.int) ∈ mW := mWin 715 (by decide +kernel) (by decide +kernel)
theorem qL_X5_34 : Cond.methodLink RX5 34 yX4_hasRoomFor ∈ mW := mWin 716 (by decide +kernel) (by decide +kernel)
theorem qI_X4_hasRoomFor : Cond.instanceMethod yX4_hasRoomFor ∈ mW := mWin 717 (by decide +kernel) (by decide +kernel)
theorem qS_X4_hasRoomFor : Cond.selects RX4 yX4_hasRoomFor yX4_hasRoomFor ∈ mW := mWin 718 (by decide +kernel) (by decide +kernel)
theorem qC_X4_hasRoomFor : Cond.code yX4_hasRoomFor prog_6_method_9_code 2 (Option.some Jvm.ClassFile.FieldType.boolean) ∈ mW := mWin 719 (by decide +kernel) (by decide +kernel)
theorem qL_X5_40 : Cond.methodLink RX5 40 yX4_commonBowls ∈ mW := mWin 720 (by decide +kernel) (by decide +kernel)
theorem qL_X5_47 : Cond.methodLink RX5 47 yX4_addLast ∈ mW := mWin 721 (by decide +kernel) (by decide +kernel)
theorem qI_X4_addLast : Cond.instanceMethod yX4_addLast ∈ mW := mWin 722 (by decide +kernel) (by decide +kernel)
theorem qS_X4_addLast : Cond.selects RX4 yX4_addLast yX4_addLast ∈ mW := mWin 723 (by decide +kernel) (by decide +kernel)
theorem qC_X4_addLast : Cond.code yX4_addLast prog_6_method_10_code 7 (Option.some Jvm.ClassFile.FieldType.int) ∈ mW := mWin 724 (by decide +kernel) (by decide +kernel)
theorem qL_X4_57 : Cond.methodLink RX4 57 yX3_settle ∈ mW := mWin 725 (by decide +kernel) (by decide +kernel)
theorem qI_X3_settle : Cond.instanceMethod yX3_settle ∈ mW := mWin 726 (by decide +kernel) (by decide +kernel)
theorem qS_X3_settle : Cond.selects RX3 yX3_settle yX3_settle ∈ mW := mWin 727 (by decide +kernel) (by decide +kernel)
theorem qC_X3_settle : Cond.code yX3_settle prog_5_method_3_code 5 (Option.none : Option Jvm.ClassFile.FieldType) ∈ mW := mWin 728 (by decide +kernel) (by decide +kernel)
theorem qL_L_62 : Cond.methodLink RL 62 yL_all ∈ mW := mWin 729 (by decide +kernel) (by decide +kernel)
theorem qT_L_all : Cond.static yL_all ∈ mW := mWin 730 (by decide +kernel) (by decide +kernel)
theorem qC_L_all : Cond.code yL_all method_5_code 5 (Option.some Jvm.ClassFile.FieldType.int) ∈ mW := mWin 731 (by decide +kernel) (by decide +kernel)
theorem qL_L_74 : Cond.methodLink RL 74 yL_isBest ∈ mW := mWin 732 (by decide +kernel) (by decide +kernel)
theorem qT_L_isBest : Cond.static yL_isBest ∈ mW := mWin 733 (by decide +kernel) (by decide +kernel)
theorem qC_L_isBest : Cond.code yL_isBest method_6_code 11 (Option.some Jvm.ClassFile.FieldType.boolean) ∈ mW := mWin 734 (by decide +kernel) (by decide +kernel)
theorem qL_L_78 : Cond.methodLink RL 78 yX5_dig ∈ mW := mWin 735 (by decide +kernel) (by decide +kernel)
theorem qI_X5_dig : Cond.instanceMethod yX5_dig ∈ mW := mWin 736 (by decide +kernel) (by decide +kernel)
theorem qS_X5_dig : Cond.selects RX5 yX5_dig yX5_dig ∈ mW := mWin 737 (by decide +kernel) (by decide +kernel)
theorem qC_X5_dig : Cond.code yX5_dig prog_1_method_6_code 3 (Option.some Jvm.ClassFile.FieldType.int) ∈ mW := mWin 738 (by decide +kernel) (by decide +kernel)
theorem qL_X5_106 : Cond.methodLink RX5 106 yX4_ownedBowls ∈ mW := mWin 739 (by decide +kernel) (by decide +kernel)
theorem qL_X5_109 : Cond.methodLink RX5 109 yX4_shareCost ∈ mW := mWin 740 (by decide +kernel) (by decide +kernel)
theorem qI_X4_shareCost : Cond.instanceMethod yX4_shareCost ∈ mW := mWin 741 (by decide +kernel) (by decide +kernel)
theorem qS_X4_shareCost : Cond.selects RX4 yX4_shareCost yX4_shareCost ∈ mW := mWin 742 (by decide +kernel) (by decide +kernel)
theorem qC_X4_shareCost : Cond.code yX4_shareCost prog_6_method_19_code 7 (Option.none : Option Jvm.ClassFile.FieldType) ∈ mW := mWin 743 (by decide +kernel) (by decide +kernel)
theorem qU_X0 : ∀ w ∈ u_ws RX0 TX0 4, w ∈ mW := by decide +kernel
theorem qU_X1 : ∀ w ∈ u_ws RX1 TX1 2, w ∈ mW := by decide +kernel
theorem qU_X2 : ∀ w ∈ u_ws RX2 TX2 8, w ∈ mW := by decide +kernel
theorem qU_X3 : ∀ w ∈ u_ws RX3 TX3 15, w ∈ mW := by decide +kernel
theorem qU_X4 : ∀ w ∈ u_ws RX4 TX4 5, w ∈ mW := by decide +kernel
theorem qU_X5 : ∀ w ∈ u_ws RX5 TX5 3, w ∈ mW := by decide +kernel
theorem qU_X6 : ∀ w ∈ u_ws RX6 TX6 18, w ∈ mW := by decide +kernel
end
section
/-! the memory: sh a = what stands at the address a (an object of a class of vwCl, or an array of a kind and a length), P its references, D its ints, E its longs -/
abbrev mX : Type := Nat ⊕ (Nat × Nat)
abbrev mSh : Type := Nat → Option mX
abbrev mPt : Type := Nat → Nat → Option Nat
abbrev mDt : Type := Nat → Nat → Int32
abbrev mEt : Type := Nat → Nat → Int64
def mN (ci : Nat) : Nat := [4, 2, 8, 15, 5, 3, 18].getD ci 0
def mrk (ci k : Nat) : Bool := if ci = 6 then [true, true, false, true, false, true, true, true, true, true].getD k false else decide (k < [0, 1, 4, 0, 3, 3].getD ci 0)
def mfl (ci : Nat) (p : Nat → Option Nat) (d : Nat → Int32) : List Value := (List.range (mN ci)).map fun k => if mrk ci k = true then va_rf (p k) else .int (d k)
def mcell (Y : Nat → ClassId) (x : mX) (p : Nat → Option Nat) (d : Nat → Int32) (q : Nat → Int64) : va_E := match x with
  | .inl ci => .inr (ci, mfl ci p d)
  | .inr (0, len) => .inl (Y 0, len, .inl d)
  | .inr (t, len) => .inl (Y t, len, .inr (.inr (.inr (.inr p))))
def upd2 (D : mDt) (a k : Nat) (x : Int32) : mDt := fun b j => if b = a ∧ j = k then x else D b j
def updP (P : mPt) (a k : Nat) (x : Option Nat) : mPt := fun b j => if b = a ∧ j = k then x else P b j
def updE (E : mEt) (a k : Nat) (x : Int64) : mEt := fun b j => if b = a ∧ j = k then x else E b j
def updS (sh : mSh) (a : Nat) (x : mX) : mSh := fun b => if b = a then some x else sh b
def mR (G : va_G) (Y : Nat → ClassId) (base n : Nat) (sh : mSh) (P : mPt) (D : mDt) (E : mEt) (H : Heap) : Prop :=
  H.size = n ∧ ∀ (a : Nat) (x : mX), sh a = some x → base ≤ a ∧ va_at G vwCl (a, mcell Y x (P a) (D a) (E a)) H
def mtys (Y : Nat → ClassId) : List (ClassId × FieldType) := [(Y 0, .int), (Y 1, .object RX3), (Y 2, .array .int)]
/-- the tables, as a state knows them -/
def mAO2 (U : State) : Prop := (Cond.arrayOver (.array .int)).before #[] U = true
theorem mAO2_spec {U : State} (h : mAO2 U) : ∃ comp c k, U.vm.findClass (FieldType.array .int).toString = some comp ∧ (U.vm.classes.findIdx? fun (x : Class) => match x.kind with | .array component _ => component == comp | _ => false) = some c ∧ U.vm.classes[c]? = some k ∧ k.kind = .array comp (.array .int) ∧ U.vm.findClass ("[" ++ (FieldType.array .int).toString) = some c := by
  unfold mAO2 Cond.before Cond.holds at h
  simp only [Cond.value, beq_iff_eq] at h
  cases hc : U.vm.findClass (FieldType.array .int).toString with
  | none => simp [hc] at h
  | some comp =>
    simp only [hc, Option.bind_some, Option.bind_eq_some_iff, Option.map_eq_some_iff] at h
    obtain ⟨c, hi, k, hk, hb⟩ := h
    obtain ⟨hlt, hp, -⟩ := Array.findIdx?_eq_some_iff_getElem.mp hi
    have hkk : U.vm.classes[c] = k := (Array.getElem?_eq_some_iff.mp hk).2
    rw [hkk] at hp
    cases hkind : k.kind with
    | array component ty =>
      rw [hkind] at hb hp
      simp at hb hp
      exact ⟨comp, c, k, rfl, hi, hk, by rw [hkind, hp, hb.1], hb.2⟩
    | _ => rw [hkind] at hb; simp at hb
theorem mAO2_moved {u U : State} (hvm : u.vm.Alike U.vm) (h : mAO2 u) : mAO2 U := by
  obtain ⟨comp, c, k, h1, h2, h3, h4, h5⟩ := mAO2_spec h
  obtain ⟨k', hk', he⟩ := hvm.2.2 _ _ h3
  have hi : (U.vm.classes.findIdx? fun (x : Class) => match x.kind with | .array component _ => component == comp | _ => false) = some c := by
    have e1 := va_idx_bare U.vm comp
    have e2 := va_idx_bare u.vm comp
    have e3 : U.vm.bare = u.vm.bare := by first | exact hvm.bare_eq | exact hvm.bare_eq.symm
    rw [e3] at e1
    exact e1.symm.trans (e2.trans h2)
  have hkind : k'.kind = .array comp (.array .int) := by rw [he]; exact h4
  have f1 : U.vm.findClass (FieldType.array .int).toString = some comp := by rw [hvm.findClass]; exact h1
  have f2 : U.vm.findClass ("[" ++ (FieldType.array .int).toString) = some c := by rw [hvm.findClass]; exact h5
  unfold mAO2 Cond.before Cond.holds
  simp only [Cond.value]
  rw [f1, Option.bind_some]
  refine (congrArg (fun o : Option Nat => (o.bind (fun c => (U.vm.classes[c]?).map fun (k : Class) => match k.kind with | .array _ ty => decide (ty = FieldType.array .int) && decide (U.vm.findClass ("[" ++ (FieldType.array .int).toString) = some c) | _ => false) == some true)) hi).trans ?_
  simp [hk', hkind, f2]
def mKx (G : va_G) (Y : Nat → ClassId) (U : State) : Prop := va_K G vwCl (mtys Y) U ∧ (∀ w ∈ mNest, va_Nw w U) ∧ va_AO RX3 U ∧ mAO2 U
abbrev mKp : Type := Launch × va_G × (Nat → ClassId) × Nat
abbrev mC : Type := (Program × Launch × Env × Room × State × MethodId × Array Value × List Frame × Method × Code) × (va_G × (Nat → ClassId) × Nat)
def mOk (Γ : mC) (κ : mKp) (own : String) (cc : ByteArray) (nL : Nat) (ret : Option FieldType) (R' : Room) : Prop := match Γ with
  | ((p, l, e, R, s, m, args, below, meth, c), (G, Y, base)) => p.tables.exec = Jvm.exec ∧ c.code = cc ∧ c.maxLocals = nL ∧ s.vm.findClass own = some m.cls ∧ (∀ w ∈ mW, w.before args s = true) ∧ mKx G Y s ∧ meth.locks = false ∧ meth.sig.returnType = ret ∧ R = R' ∧ base ≤ s.heap.size ∧ (l, G, Y, base) = κ
def mV (Γ : mC) (Q : State → Prop) (kc ks n : Nat) (sh : mSh) (P : mPt) (D : mDt) (E : mEt) (lv : List (Nat × Value)) (st : List Value) (pc : Nat) : Prop := match Γ with
  | ((p, l, e, R, s, m, args, below, meth, c), (G, Y, base)) => ∀ (H : Heap) (locs : List Loc) (ls : Array Slot), mR G Y base n sh P D E H → va_S (fun q => base ≤ q) s.heap H locs → lv_has ls c.maxLocals lv → W p l e R s m args below meth c H locs kc ks Q (F0 m pc ls st)
theorem upd2_eq {D : mDt} {a k : Nat} {x : Int32} : upd2 D a k x a k = x := by simp [upd2]
theorem upd2_na {D : mDt} {a k b j : Nat} {x : Int32} (h : b ≠ a) : upd2 D a k x b j = D b j := by simp [upd2, h]
theorem upd2_nk {D : mDt} {a k b j : Nat} {x : Int32} (h : j ≠ k) : upd2 D a k x b j = D b j := by simp [upd2, h]
theorem upd2_ra {D : mDt} {a k b : Nat} {x : Int32} (h : b ≠ a) : upd2 D a k x b = D b := by funext j; simp [upd2, h]
theorem upd2_row {D : mDt} {a k : Nat} {x : Int32} : upd2 D a k x a = upd (D a) k x := by funext j; simp [upd2, upd]
theorem updP_row {P : mPt} {a k : Nat} {x : Option Nat} : updP P a k x a = va_up (P a) k x := by funext j; simp [updP, va_up]
theorem updP_ra {P : mPt} {a k b : Nat} {x : Option Nat} (h : b ≠ a) : updP P a k x b = P b := by funext j; simp [updP, h]
theorem updE_ra {E : mEt} {a k b : Nat} {x : Int64} (h : b ≠ a) : updE E a k x b = E b := by funext j; simp [updE, h]
theorem updE_row {E : mEt} {a k : Nat} {x : Int64} : updE E a k x a = vp_updL (E a) k x := by funext j; simp [updE, vp_updL]
theorem mfl_len (ci : Nat) (p : Nat → Option Nat) (d : Nat → Int32) : (mfl ci p d).length = mN ci := by simp [mfl]
theorem mfl_get {ci k : Nat} {p : Nat → Option Nat} {d : Nat → Int32} (hk : k < mN ci) : (mfl ci p d)[k]? = some (if mrk ci k = true then va_rf (p k) else .int (d k)) := by simp [mfl, hk]
theorem mfl_geti {ci k : Nat} {p : Nat → Option Nat} {d : Nat → Int32} (hk : k < mN ci) (hr : mrk ci k = false) : (mfl ci p d)[k]? = some (.int (d k)) := by rw [mfl_get hk, hr]; rfl
theorem mfl_getr {ci k b : Nat} {p : Nat → Option Nat} {d : Nat → Int32} (hk : k < mN ci) (hr : mrk ci k = true) (hb : p k = some b) : (mfl ci p d)[k]? = some (.ref b) := by rw [mfl_get hk, hr, hb]; rfl
theorem mfl_seti {ci k : Nat} {p : Nat → Option Nat} {d : Nat → Int32} {x : Int32} (hr : mrk ci k = false) : (mfl ci p d).set k (.int x) = mfl ci p (upd d k x) := by
  apply List.ext_getElem?
  intro j
  rw [List.getElem?_set]
  by_cases hj : k = j
  · subst hj
    by_cases hl : k < mN ci
    · rw [if_pos rfl, if_pos (by rw [mfl_len]; exact hl), mfl_geti hl hr]; simp [upd]
    · rw [if_pos rfl, if_neg (by rw [mfl_len]; exact hl), List.getElem?_eq_none (by rw [mfl_len]; omega)]
  · rw [if_neg hj]
    by_cases hl : j < mN ci
    · rw [mfl_get hl, mfl_get hl]; simp [upd, Ne.symm hj]
    · rw [List.getElem?_eq_none (by rw [mfl_len]; omega), List.getElem?_eq_none (by rw [mfl_len]; omega)]
theorem mfl_setr {ci k : Nat} {p : Nat → Option Nat} {d : Nat → Int32} {x : Option Nat} (hr : mrk ci k = true) : (mfl ci p d).set k (va_rf x) = mfl ci (va_up p k x) d := by
  apply List.ext_getElem?
  intro j
  rw [List.getElem?_set]
  by_cases hj : k = j
  · subst hj
    by_cases hl : k < mN ci
    · rw [if_pos rfl, if_pos (by rw [mfl_len]; exact hl), mfl_get hl, hr]; simp [va_up]
    · rw [if_pos rfl, if_neg (by rw [mfl_len]; exact hl), List.getElem?_eq_none (by rw [mfl_len]; omega)]
  · rw [if_neg hj]
    by_cases hl : j < mN ci
    · rw [mfl_get hl, mfl_get hl]; simp [va_up, Ne.symm hj]
    · rw [List.getElem?_eq_none (by rw [mfl_len]; omega), List.getElem?_eq_none (by rw [mfl_len]; omega)]
theorem mR_one {G : va_G} {Y : Nat → ClassId} {base n : Nat} {sh : mSh} {P : mPt} {D : mDt} {E : mEt} {H : Heap} (h : mR G Y base n sh P D E H) {a : Nat} {x : mX} (hs : sh a = some x) : va_P G vwCl [(a, mcell Y x (P a) (D a) (E a))] H := by
  intro k q hk
  match k, hk with
  | 0, hk => cases hk; exact (h.2 a x hs).2
  | k + 1, hk => simp at hk
theorem mD_one {A : Nat → Prop} {a : Nat} {e : va_E} (h : A a) : va_D A [(a, e)] := by
  refine ⟨fun i j p q hi hj _ => ?_, fun k q hk => ?_⟩
  · have h1 : i < 1 := (List.getElem?_eq_some_iff.mp hi).1
    have h2 : j < 1 := (List.getElem?_eq_some_iff.mp hj).1
    omega
  · match k, hk with
    | 0, hk => cases hk; exact h
    | k + 1, hk => simp at hk
/-- one cell is written -/
theorem mR_set {G : va_G} {Y : Nat → ClassId} {base n : Nat} {sh : mSh} {P P' : mPt} {D D' : mDt} {E E' : mEt} {H H1 : Heap} (h : mR G Y base n sh P D E H) {a : Nat} {x : mX} (hs : sh a = some x) (hz : H1.size = H.size) (hat : va_at G vwCl (a, mcell Y x (P' a) (D' a) (E' a)) H1) (oq : ∀ q : Nat, q ≠ a → H1[q]? = H[q]?)
    (hP : ∀ b, b ≠ a → P' b = P b) (hD : ∀ b, b ≠ a → D' b = D b) (hE : ∀ b, b ≠ a → E' b = E b) : mR G Y base n sh P' D' E' H1 := by
  refine ⟨hz.trans h.1, fun b y hb => ?_⟩
  by_cases e : b = a
  · subst e
    rw [hs] at hb
    cases hb
    exact ⟨(h.2 b x hs).1, hat⟩
  · obtain ⟨h1, h2⟩ := h.2 b y hb
    refine ⟨h1, ?_⟩
    rw [hP b e, hD b e, hE b e]
    exact h2.kept (oq b e)
/-- one cell is made -/
theorem mR_new {G : va_G} {Y : Nat → ClassId} {base n : Nat} {sh : mSh} {P P' : mPt} {D D' : mDt} {E E' : mEt} {H H1 : Heap} (h : mR G Y base n sh P D E H) {x : mX} (hb : base ≤ n) (hz : H1.size = n + 1) (hat : va_at G vwCl (n, mcell Y x (P' n) (D' n) (E' n)) H1) (oq : ∀ q : Nat, q < n → H1[q]? = H[q]?)
    (hP : ∀ b, b ≠ n → P' b = P b) (hD : ∀ b, b ≠ n → D' b = D b) (hE : ∀ b, b ≠ n → E' b = E b) : mR G Y base (n + 1) (updS sh n x) P' D' E' H1 := by
  refine ⟨hz, fun b y hy => ?_⟩
  unfold updS at hy
  by_cases e : b = n
  · subst e
    rw [if_pos rfl] at hy
    cases hy
    exact ⟨hb, hat⟩
  · rw [if_neg e] at hy
    obtain ⟨h1, h2⟩ := h.2 b y hy
    refine ⟨h1, ?_⟩
    rw [hP b e, hD b e, hE b e]
    exact h2.kept (oq b (by have := h2.lt; rw [h.1] at this; exact this))
/-- what is said of no cell is left out -/
theorem mR_less {G : va_G} {Y : Nat → ClassId} {base n : Nat} {sh sh' : mSh} {P : mPt} {D : mDt} {E : mEt} {H : Heap} (h : mR G Y base n sh P D E H) (hs : ∀ a x, sh' a = some x → sh a = some x) : mR G Y base n sh' P D E H := ⟨h.1, fun a x hx => h.2 a x (hs a x hx)⟩
theorem mR_lt {G : va_G} {Y : Nat → ClassId} {base n : Nat} {sh : mSh} {P : mPt} {D : mDt} {E : mEt} {H : Heap} (h : mR G Y base n sh P D E H) {a : Nat} {x : mX} (hs : sh a = some x) : a < n := by
  have := (h.2 a x hs).2.lt
  rw [h.1] at this
  exact this
/-- memories that hold the same where something is said -/
theorem mR_same {G : va_G} {Y : Nat → ClassId} {base n : Nat} {sh : mSh} {P P' : mPt} {D D' : mDt} {E E' : mEt} {H : Heap} (h : mR G Y base n sh P D E H) (hP : ∀ a x, sh a = some x → P' a = P a) (hD : ∀ a x, sh a = some x → D' a = D a) (hE : ∀ a x, sh a = some x → E' a = E a) : mR G Y base n sh P' D' E' H := by
  refine ⟨h.1, fun a x hx => ?_⟩
  rw [hP a x hx, hD a x hx, hE a x hx]
  exact h.2 a x hx
def imax (x y : Int32) : Int32 := if x < y then y else x
def imin (x y : Int32) : Int32 := if y < x then y else x
section MV
variable {Γ : mC} {κ : mKp} {Q : State → Prop} {kc ks n : Nat} {sh : mSh} {P : mPt} {D : mDt} {E : mEt} {lv : List (Nat × Value)} {st : List Value} {pc : Nat} {own : String} {cc : ByteArray} {nL : Nat} {ret : Option FieldType} {R : Room}
theorem V_iconst (h : mOk Γ κ own cc nL ret R) (pc' : Nat) {z : Int} {v : Int32} (hv : Int32.ofInt z = v) (d : decode cc pc = .ok (.iconst z, 1)) (hp : pc + 1 = pc') (k : mV Γ Q kc ks n sh P D E lv (.int v :: st) pc') : mV Γ Q kc ks n sh P D E lv (st) pc := by
  obtain ⟨⟨p, l, e, R0, s, m, args, below, meth, c⟩, G, Y, base⟩ := Γ
  obtain ⟨hx, hb, hml, hown, hts, hK, hlk, hrt, hR, hbs, -⟩ := h
  subst hp
  intro H locs ls hR1 hS hl
  exact lv_iconst hx hb d hv (k H locs ls hR1 hS hl)
theorem V_bipush (h : mOk Γ κ own cc nL ret R) (pc' : Nat) {z : Int} {v : Int32} (hv : (Int8.ofInt z).toInt32 = v) (d : decode cc pc = .ok (.bipush z, 2)) (hp : pc + 2 = pc') (k : mV Γ Q kc ks n sh P D E lv (.int v :: st) pc') : mV Γ Q kc ks n sh P D E lv (st) pc := by
  obtain ⟨⟨p, l, e, R0, s, m, args, below, meth, c⟩, G, Y, base⟩ := Γ
  obtain ⟨hx, hb, hml, hown, hts, hK, hlk, hrt, hR, hbs, -⟩ := h
  subst hp
  intro H locs ls hR1 hS hl
  exact lv_bipush hx hb d hv (k H locs ls hR1 hS hl)
theorem V_sipush (h : mOk Γ κ own cc nL ret R) (pc' : Nat) {z : Int} {v : Int32} (hv : (Int16.ofInt z).toInt32 = v) (d : decode cc pc = .ok (.sipush z, 3)) (hp : pc + 3 = pc') (k : mV Γ Q kc ks n sh P D E lv (.int v :: st) pc') : mV Γ Q kc ks n sh P D E lv (st) pc := by
  obtain ⟨⟨p, l, e, R0, s, m, args, below, meth, c⟩, G, Y, base⟩ := Γ
  obtain ⟨hx, hb, hml, hown, hts, hK, hlk, hrt, hR, hbs, -⟩ := h
  subst hp
  intro H locs ls hR1 hS hl
  exact lv_sipush hx hb d hv (k H locs ls hR1 hS hl)
theorem V_iload (h : mOk Γ κ own cc nL ret R) (pc' : Nat) {i : Nat} {x : Int32} (k0 : Nat) (hk : lv[k0]? = some (i, .int x)) (d : decode cc pc = .ok (.iload i, 2)) (hp : pc + 2 = pc') (k : mV Γ Q kc ks n sh P D E lv (.int x :: st) pc') : mV Γ Q kc ks n sh P D E lv (st) pc := by
  obtain ⟨⟨p, l, e, R0, s, m, args, below, meth, c⟩, G, Y, base⟩ := Γ
  obtain ⟨hx, hb, hml, hown, hts, hK, hlk, hrt, hR, hbs, -⟩ := h
  subst hp
  intro H locs ls hR1 hS hl
  exact lv_iload hx hb d (lv_at hl k0 hk) (k H locs ls hR1 hS hl)
theorem V_iload_n (h : mOk Γ κ own cc nL ret R) (pc' : Nat) {i : Fin 4} {x : Int32} (k0 : Nat) (hk : lv[k0]? = some ((i : Nat), .int x)) (d : decode cc pc = .ok (.iload_n i, 1)) (hp : pc + 1 = pc') (k : mV Γ Q kc ks n sh P D E lv (.int x :: st) pc') : mV Γ Q kc ks n sh P D E lv (st) pc := by
  obtain ⟨⟨p, l, e, R0, s, m, args, below, meth, c⟩, G, Y, base⟩ := Γ
  obtain ⟨hx, hb, hml, hown, hts, hK, hlk, hrt, hR, hbs, -⟩ := h
  subst hp
  intro H locs ls hR1 hS hl
  exact lv_iload_n hx hb d rfl (lv_at hl k0 hk) (k H locs ls hR1 hS hl)
theorem V_aload (h : mOk Γ κ own cc nL ret R) (pc' : Nat) {i : Nat} {x : Nat} (k0 : Nat) (hk : lv[k0]? = some (i, .ref x)) (d : decode cc pc = .ok (.aload i, 2)) (hp : pc + 2 = pc') (k : mV Γ Q kc ks n sh P D E lv (.ref x :: st) pc') : mV Γ Q kc ks n sh P D E lv (st) pc := by
  obtain ⟨⟨p, l, e, R0, s, m, args, below, meth, c⟩, G, Y, base⟩ := Γ
  obtain ⟨hx, hb, hml, hown, hts, hK, hlk, hrt, hR, hbs, -⟩ := h
  subst hp
  intro H locs ls hR1 hS hl
  exact lv_aload hx hb d (lv_at hl k0 hk) (k H locs ls hR1 hS hl)
theorem V_aload_n (h : mOk Γ κ own cc nL ret R) (pc' : Nat) {i : Fin 4} {x : Nat} (k0 : Nat) (hk : lv[k0]? = some ((i : Nat), .ref x)) (d : decode cc pc = .ok (.aload_n i, 1)) (hp : pc + 1 = pc') (k : mV Γ Q kc ks n sh P D E lv (.ref x :: st) pc') : mV Γ Q kc ks n sh P D E lv (st) pc := by
  obtain ⟨⟨p, l, e, R0, s, m, args, below, meth, c⟩, G, Y, base⟩ := Γ
  obtain ⟨hx, hb, hml, hown, hts, hK, hlk, hrt, hR, hbs, -⟩ := h
  subst hp
  intro H locs ls hR1 hS hl
  exact lv_aload_n hx hb d rfl (lv_at hl k0 hk) (k H locs ls hR1 hS hl)
theorem V_lload_n (h : mOk Γ κ own cc nL ret R) (pc' : Nat) {i : Fin 4} {x : Int64} (k0 : Nat) (hk : lv[k0]? = some ((i : Nat), .long x)) (d : decode cc pc = .ok (.lload_n i, 1)) (hp : pc + 1 = pc') (k : mV Γ Q kc ks n sh P D E lv (.long x :: st) pc') : mV Γ Q kc ks n sh P D E lv (st) pc := by
  obtain ⟨⟨p, l, e, R0, s, m, args, below, meth, c⟩, G, Y, base⟩ := Γ
  obtain ⟨hx, hb, hml, hown, hts, hK, hlk, hrt, hR, hbs, -⟩ := h
  subst hp
  intro H locs ls hR1 hS hl
  exact lv_lload_n hx hb d rfl (lv_at hl k0 hk) (k H locs ls hR1 hS hl)
theorem V_dload (h : mOk Γ κ own cc nL ret R) (pc' : Nat) {i : Nat} {x : UInt64} (k0 : Nat) (hk : lv[k0]? = some (i, .double x)) (d : decode cc pc = .ok (.dload i, 2)) (hp : pc + 2 = pc') (k : mV Γ Q kc ks n sh P D E lv (.double x :: st) pc') : mV Γ Q kc ks n sh P D E lv (st) pc := by
  obtain ⟨⟨p, l, e, R0, s, m, args, below, meth, c⟩, G, Y, base⟩ := Γ
  obtain ⟨hx, hb, hml, hown, hts, hK, hlk, hrt, hR, hbs, -⟩ := h
  subst hp
  intro H locs ls hR1 hS hl
  exact lv_dload hx hb d (lv_at hl k0 hk) (k H locs ls hR1 hS hl)
theorem V_istore (h : mOk Γ κ own cc nL ret R) (pc' : Nat) (lv' : List (Nat × Value)) {i : Nat} {x : Int32} (hi : i < nL) (he : (i, Value.int x) :: lv.filter (fun q => !(q.1 == i) && !(q.1 + 1 == i && q.2.category == 2)) = lv') (d : decode cc pc = .ok (.istore i, 2)) (hp : pc + 2 = pc') (k : mV Γ Q kc ks n sh P D E lv' st pc') : mV Γ Q kc ks n sh P D E lv (.int x :: st) pc := by
  obtain ⟨⟨p, l, e, R0, s, m, args, below, meth, c⟩, G, Y, base⟩ := Γ
  obtain ⟨hx, hb, hml, hown, hts, hK, hlk, hrt, hR, hbs, -⟩ := h
  subst hp
  intro H locs ls hR1 hS hl
  exact lv_istore hx hb d hl (by rw [hml]; exact hi) he (fun ls hl => k H locs ls hR1 hS hl)
theorem V_istore_n (h : mOk Γ κ own cc nL ret R) (pc' : Nat) (lv' : List (Nat × Value)) {i : Fin 4} {x : Int32} (hi : (i : Nat) < nL) (he : ((i : Nat), Value.int x) :: lv.filter (fun q => !(q.1 == (i : Nat)) && !(q.1 + 1 == (i : Nat) && q.2.category == 2)) = lv') (d : decode cc pc = .ok (.istore_n i, 1)) (hp : pc + 1 = pc') (k : mV Γ Q kc ks n sh P D E lv' st pc') : mV Γ Q kc ks n sh P D E lv (.int x :: st) pc := by
  obtain ⟨⟨p, l, e, R0, s, m, args, below, meth, c⟩, G, Y, base⟩ := Γ
  obtain ⟨hx, hb, hml, hown, hts, hK, hlk, hrt, hR, hbs, -⟩ := h
  subst hp
  intro H locs ls hR1 hS hl
  exact lv_istore_n hx hb d rfl hl (by rw [hml]; exact hi) he (fun ls hl => k H locs ls hR1 hS hl)
theorem V_astore (h : mOk Γ κ own cc nL ret R) (pc' : Nat) (lv' : List (Nat × Value)) {i : Nat} {x : Nat} (hi : i < nL) (he : (i, Value.ref x) :: lv.filter (fun q => !(q.1 == i) && !(q.1 + 1 == i && q.2.category == 2)) = lv') (d : decode cc pc = .ok (.astore i, 2)) (hp : pc + 2 = pc') (k : mV Γ Q kc ks n sh P D E lv' st pc') : mV Γ Q kc ks n sh P D E lv (.ref x :: st) pc := by
  obtain ⟨⟨p, l, e, R0, s, m, args, below, meth, c⟩, G, Y, base⟩ := Γ
  obtain ⟨hx, hb, hml, hown, hts, hK, hlk, hrt, hR, hbs, -⟩ := h
  subst hp
  intro H locs ls hR1 hS hl
  exact lv_astore hx hb d hl (by rw [hml]; exact hi) he (fun ls hl => k H locs ls hR1 hS hl)
theorem V_astore_n (h : mOk Γ κ own cc nL ret R) (pc' : Nat) (lv' : List (Nat × Value)) {i : Fin 4} {x : Nat} (hi : (i : Nat) < nL) (he : ((i : Nat), Value.ref x) :: lv.filter (fun q => !(q.1 == (i : Nat)) && !(q.1 + 1 == (i : Nat) && q.2.category == 2)) = lv') (d : decode cc pc = .ok (.astore_n i, 1)) (hp : pc + 1 = pc') (k : mV Γ Q kc ks n sh P D E lv' st pc') : mV Γ Q kc ks n sh P D E lv (.ref x :: st) pc := by
  obtain ⟨⟨p, l, e, R0, s, m, args, below, meth, c⟩, G, Y, base⟩ := Γ
  obtain ⟨hx, hb, hml, hown, hts, hK, hlk, hrt, hR, hbs, -⟩ := h
  subst hp
  intro H locs ls hR1 hS hl
  exact lv_astore_n hx hb d rfl hl (by rw [hml]; exact hi) he (fun ls hl => k H locs ls hR1 hS hl)
theorem V_lstore_n (h : mOk Γ κ own cc nL ret R) (pc' : Nat) (lv' : List (Nat × Value)) {i : Fin 4} {x : Int64} (hi : (i : Nat) + 1 < nL) (he : ((i : Nat), Value.long x) :: lv.filter (fun q => !(q.1 == (i : Nat)) && (!(q.1 == (i : Nat) + 1) && !(q.1 + 1 == (i : Nat) && q.2.category == 2))) = lv') (d : decode cc pc = .ok (.lstore_n i, 1)) (hp : pc + 1 = pc') (k : mV Γ Q kc ks n sh P D E lv' st pc') : mV Γ Q kc ks n sh P D E lv (.long x :: st) pc := by
  obtain ⟨⟨p, l, e, R0, s, m, args, below, meth, c⟩, G, Y, base⟩ := Γ
  obtain ⟨hx, hb, hml, hown, hts, hK, hlk, hrt, hR, hbs, -⟩ := h
  subst hp
  intro H locs ls hR1 hS hl
  exact lv_lstore_n hx hb d rfl hl (by rw [hml]; exact hi) he (fun ls hl => k H locs ls hR1 hS hl)
theorem V_dstore (h : mOk Γ κ own cc nL ret R) (pc' : Nat) (lv' : List (Nat × Value)) {i : Nat} {x : UInt64} (hi : i + 1 < nL) (he : (i, Value.double x) :: lv.filter (fun q => !(q.1 == i) && (!(q.1 == i + 1) && !(q.1 + 1 == i && q.2.category == 2))) = lv') (d : decode cc pc = .ok (.dstore i, 2)) (hp : pc + 2 = pc') (k : mV Γ Q kc ks n sh P D E lv' st pc') : mV Γ Q kc ks n sh P D E lv (.double x :: st) pc := by
  obtain ⟨⟨p, l, e, R0, s, m, args, below, meth, c⟩, G, Y, base⟩ := Γ
  obtain ⟨hx, hb, hml, hown, hts, hK, hlk, hrt, hR, hbs, -⟩ := h
  subst hp
  intro H locs ls hR1 hS hl
  exact lv_dstore hx hb d hl (by rw [hml]; exact hi) he (fun ls hl => k H locs ls hR1 hS hl)
theorem V_iinc (h : mOk Γ κ own cc nL ret R) (pc' : Nat) (lv' : List (Nat × Value)) {i : Nat} {z : Int} {x v : Int32} (k0 : Nat) (hk : lv[k0]? = some (i, .int x)) (hv : x + Int32.ofInt z = v) (hi : i < nL) (he : (i, Value.int v) :: lv.filter (fun q => !(q.1 == i) && !(q.1 + 1 == i && q.2.category == 2)) = lv') (d : decode cc pc = .ok (.iinc i z, 3)) (hp : pc + 3 = pc') (k : mV Γ Q kc ks n sh P D E lv' st pc') : mV Γ Q kc ks n sh P D E lv (st) pc := by
  obtain ⟨⟨p, l, e, R0, s, m, args, below, meth, c⟩, G, Y, base⟩ := Γ
  obtain ⟨hx, hb, hml, hown, hts, hK, hlk, hrt, hR, hbs, -⟩ := h
  subst hp
  intro H locs ls hR1 hS hl
  exact lv_iinc hx hb d hl hk hv (by rw [hml]; exact hi) he (fun ls hl => k H locs ls hR1 hS hl)
theorem V_iadd (h : mOk Γ κ own cc nL ret R) (pc' : Nat) {x y : Int32} (d : decode cc pc = .ok (.iadd, 1)) (hp : pc + 1 = pc') (k : mV Γ Q kc ks n sh P D E lv (.int (x + y) :: st) pc') : mV Γ Q kc ks n sh P D E lv (.int y :: .int x :: st) pc := by
  obtain ⟨⟨p, l, e, R0, s, m, args, below, meth, c⟩, G, Y, base⟩ := Γ
  obtain ⟨hx, hb, hml, hown, hts, hK, hlk, hrt, hR, hbs, -⟩ := h
  subst hp
  intro H locs ls hR1 hS hl
  exact lv_iadd hx hb d (k H locs ls hR1 hS hl)
theorem V_isub (h : mOk Γ κ own cc nL ret R) (pc' : Nat) {x y : Int32} (d : decode cc pc = .ok (.isub, 1)) (hp : pc + 1 = pc') (k : mV Γ Q kc ks n sh P D E lv (.int (x - y) :: st) pc') : mV Γ Q kc ks n sh P D E lv (.int y :: .int x :: st) pc := by
  obtain ⟨⟨p, l, e, R0, s, m, args, below, meth, c⟩, G, Y, base⟩ := Γ
  obtain ⟨hx, hb, hml, hown, hts, hK, hlk, hrt, hR, hbs, -⟩ := h
  subst hp
  intro H locs ls hR1 hS hl
  exact lv_isub hx hb d (k H locs ls hR1 hS hl)
theorem V_imul (h : mOk Γ κ own cc nL ret R) (pc' : Nat) {x y : Int32} (d : decode cc pc = .ok (.imul, 1)) (hp : pc + 1 = pc') (k : mV Γ Q kc ks n sh P D E lv (.int (x * y) :: st) pc') : mV Γ Q kc ks n sh P D E lv (.int y :: .int x :: st) pc := by
  obtain ⟨⟨p, l, e, R0, s, m, args, below, meth, c⟩, G, Y, base⟩ := Γ
  obtain ⟨hx, hb, hml, hown, hts, hK, hlk, hrt, hR, hbs, -⟩ := h
  subst hp
  intro H locs ls hR1 hS hl
  exact lv_imul hx hb d (k H locs ls hR1 hS hl)
theorem V_iand (h : mOk Γ κ own cc nL ret R) (pc' : Nat) {x y : Int32} (d : decode cc pc = .ok (.iand, 1)) (hp : pc + 1 = pc') (k : mV Γ Q kc ks n sh P D E lv (.int (x &&& y) :: st) pc') : mV Γ Q kc ks n sh P D E lv (.int y :: .int x :: st) pc := by
  obtain ⟨⟨p, l, e, R0, s, m, args, below, meth, c⟩, G, Y, base⟩ := Γ
  obtain ⟨hx, hb, hml, hown, hts, hK, hlk, hrt, hR, hbs, -⟩ := h
  subst hp
  intro H locs ls hR1 hS hl
  exact lv_iand hx hb d (k H locs ls hR1 hS hl)
theorem V_idiv (h : mOk Γ κ own cc nL ret R) (pc' : Nat) {x y : Int32} (hne : ¬ y = 0) (d : decode cc pc = .ok (.idiv, 1)) (hp : pc + 1 = pc') (k : mV Γ Q kc ks n sh P D E lv (.int (x / y) :: st) pc') : mV Γ Q kc ks n sh P D E lv (.int y :: .int x :: st) pc := by
  obtain ⟨⟨p, l, e, R0, s, m, args, below, meth, c⟩, G, Y, base⟩ := Γ
  obtain ⟨hx, hb, hml, hown, hts, hK, hlk, hrt, hR, hbs, -⟩ := h
  subst hp
  intro H locs ls hR1 hS hl
  exact lv_idiv hx hb d hne (k H locs ls hR1 hS hl)
theorem V_irem (h : mOk Γ κ own cc nL ret R) (pc' : Nat) {x y : Int32} (hne : ¬ y = 0) (d : decode cc pc = .ok (.irem, 1)) (hp : pc + 1 = pc') (k : mV Γ Q kc ks n sh P D E lv (.int (x - x / y * y) :: st) pc') : mV Γ Q kc ks n sh P D E lv (.int y :: .int x :: st) pc := by
  obtain ⟨⟨p, l, e, R0, s, m, args, below, meth, c⟩, G, Y, base⟩ := Γ
  obtain ⟨hx, hb, hml, hown, hts, hK, hlk, hrt, hR, hbs, -⟩ := h
  subst hp
  intro H locs ls hR1 hS hl
  exact lv_irem hx hb d hne (k H locs ls hR1 hS hl)
theorem V_ineg (h : mOk Γ κ own cc nL ret R) (pc' : Nat) {x : Int32} (d : decode cc pc = .ok (.ineg, 1)) (hp : pc + 1 = pc') (k : mV Γ Q kc ks n sh P D E lv (.int (-x) :: st) pc') : mV Γ Q kc ks n sh P D E lv (.int x :: st) pc := by
  obtain ⟨⟨p, l, e, R0, s, m, args, below, meth, c⟩, G, Y, base⟩ := Γ
  obtain ⟨hx, hb, hml, hown, hts, hK, hlk, hrt, hR, hbs, -⟩ := h
  subst hp
  intro H locs ls hR1 hS hl
  exact lv_ineg hx hb d (k H locs ls hR1 hS hl)
theorem V_i2l (h : mOk Γ κ own cc nL ret R) (pc' : Nat) {x : Int32} (d : decode cc pc = .ok (.i2l, 1)) (hp : pc + 1 = pc') (k : mV Γ Q kc ks n sh P D E lv (.long x.toInt64 :: st) pc') : mV Γ Q kc ks n sh P D E lv (.int x :: st) pc := by
  obtain ⟨⟨p, l, e, R0, s, m, args, below, meth, c⟩, G, Y, base⟩ := Γ
  obtain ⟨hx, hb, hml, hown, hts, hK, hlk, hrt, hR, hbs, -⟩ := h
  subst hp
  intro H locs ls hR1 hS hl
  exact lv_i2l hx hb d rfl (k H locs ls hR1 hS hl)
theorem V_ladd (h : mOk Γ κ own cc nL ret R) (pc' : Nat) {x y : Int64} (d : decode cc pc = .ok (.ladd, 1)) (hp : pc + 1 = pc') (k : mV Γ Q kc ks n sh P D E lv (.long (x + y) :: st) pc') : mV Γ Q kc ks n sh P D E lv (.long y :: .long x :: st) pc := by
  obtain ⟨⟨p, l, e, R0, s, m, args, below, meth, c⟩, G, Y, base⟩ := Γ
  obtain ⟨hx, hb, hml, hown, hts, hK, hlk, hrt, hR, hbs, -⟩ := h
  subst hp
  intro H locs ls hR1 hS hl
  exact lv_ladd hx hb d (k H locs ls hR1 hS hl)
theorem V_lmul (h : mOk Γ κ own cc nL ret R) (pc' : Nat) {x y : Int64} (d : decode cc pc = .ok (.lmul, 1)) (hp : pc + 1 = pc') (k : mV Γ Q kc ks n sh P D E lv (.long (x * y) :: st) pc') : mV Γ Q kc ks n sh P D E lv (.long y :: .long x :: st) pc := by
  obtain ⟨⟨p, l, e, R0, s, m, args, below, meth, c⟩, G, Y, base⟩ := Γ
  obtain ⟨hx, hb, hml, hown, hts, hK, hlk, hrt, hR, hbs, -⟩ := h
  subst hp
  intro H locs ls hR1 hS hl
  exact lv_lmul hx hb d (k H locs ls hR1 hS hl)
theorem V_lcmp (h : mOk Γ κ own cc nL ret R) (pc' : Nat) {x y : Int64} (d : decode cc pc = .ok (.lcmp, 1)) (hp : pc + 1 = pc') (k : mV Γ Q kc ks n sh P D E lv (.int (lg_cmp x y) :: st) pc') : mV Γ Q kc ks n sh P D E lv (.long y :: .long x :: st) pc := by
  obtain ⟨⟨p, l, e, R0, s, m, args, below, meth, c⟩, G, Y, base⟩ := Γ
  obtain ⟨hx, hb, hml, hown, hts, hK, hlk, hrt, hR, hbs, -⟩ := h
  subst hp
  intro H locs ls hR1 hS hl
  exact W.lcmp hx hb d (k H locs ls hR1 hS hl)
theorem V_dup (h : mOk Γ κ own cc nL ret R) (pc' : Nat) {va : Value} (hva : va.category = 1) (d : decode cc pc = .ok (.dup, 1)) (hp : pc + 1 = pc') (k : mV Γ Q kc ks n sh P D E lv (va :: va :: st) pc') : mV Γ Q kc ks n sh P D E lv (va :: st) pc := by
  obtain ⟨⟨p, l, e, R0, s, m, args, below, meth, c⟩, G, Y, base⟩ := Γ
  obtain ⟨hx, hb, hml, hown, hts, hK, hlk, hrt, hR, hbs, -⟩ := h
  subst hp
  intro H locs ls hR1 hS hl
  exact lv_dup hx hb d hva (k H locs ls hR1 hS hl)
theorem V_dup_x1 (h : mOk Γ κ own cc nL ret R) (pc' : Nat) {va vb : Value} (hva : va.category = 1) (hvb : vb.category = 1) (d : decode cc pc = .ok (.dup_x1, 1)) (hp : pc + 1 = pc') (k : mV Γ Q kc ks n sh P D E lv (va :: vb :: va :: st) pc') : mV Γ Q kc ks n sh P D E lv (va :: vb :: st) pc := by
  obtain ⟨⟨p, l, e, R0, s, m, args, below, meth, c⟩, G, Y, base⟩ := Γ
  obtain ⟨hx, hb, hml, hown, hts, hK, hlk, hrt, hR, hbs, -⟩ := h
  subst hp
  intro H locs ls hR1 hS hl
  exact lv_dup_x1 hx hb d hva hvb (k H locs ls hR1 hS hl)
theorem V_dup_x2 (h : mOk Γ κ own cc nL ret R) (pc' : Nat) {va vb vd : Value} (hva : va.category = 1) (hvb : vb.category = 1) (hvd : vd.category = 1) (d : decode cc pc = .ok (.dup_x2, 1)) (hp : pc + 1 = pc') (k : mV Γ Q kc ks n sh P D E lv (va :: vb :: vd :: va :: st) pc') : mV Γ Q kc ks n sh P D E lv (va :: vb :: vd :: st) pc := by
  obtain ⟨⟨p, l, e, R0, s, m, args, below, meth, c⟩, G, Y, base⟩ := Γ
  obtain ⟨hx, hb, hml, hown, hts, hK, hlk, hrt, hR, hbs, -⟩ := h
  subst hp
  intro H locs ls hR1 hS hl
  exact lv_dup_x2 hx hb d hva hvb hvd (k H locs ls hR1 hS hl)
theorem V_dup2 (h : mOk Γ κ own cc nL ret R) (pc' : Nat) {va vb : Value} (hva : va.category = 1) (hvb : vb.category = 1) (d : decode cc pc = .ok (.dup2, 1)) (hp : pc + 1 = pc') (k : mV Γ Q kc ks n sh P D E lv (va :: vb :: va :: vb :: st) pc') : mV Γ Q kc ks n sh P D E lv (va :: vb :: st) pc := by
  obtain ⟨⟨p, l, e, R0, s, m, args, below, meth, c⟩, G, Y, base⟩ := Γ
  obtain ⟨hx, hb, hml, hown, hts, hK, hlk, hrt, hR, hbs, -⟩ := h
  subst hp
  intro H locs ls hR1 hS hl
  exact lv_dup2_11 hx hb d hva hvb (k H locs ls hR1 hS hl)
theorem V_pop (h : mOk Γ κ own cc nL ret R) (pc' : Nat) {va : Value} (hva : va.category = 1) (d : decode cc pc = .ok (.pop, 1)) (hp : pc + 1 = pc') (k : mV Γ Q kc ks n sh P D E lv (st) pc') : mV Γ Q kc ks n sh P D E lv (va :: st) pc := by
  obtain ⟨⟨p, l, e, R0, s, m, args, below, meth, c⟩, G, Y, base⟩ := Γ
  obtain ⟨hx, hb, hml, hown, hts, hK, hlk, hrt, hR, hbs, -⟩ := h
  subst hp
  intro H locs ls hR1 hS hl
  exact lv_pop hx hb d hva (k H locs ls hR1 hS hl)
theorem V_goto (h : mOk Γ κ own cc nL ret R) (tgt : Nat) {off : Int} (d : decode cc pc = .ok (.goto off, 3)) (ht : (pc : Int) + off = (tgt : Int)) (k : mV Γ Q kc ks n sh P D E lv st tgt) : mV Γ Q kc ks n sh P D E lv st pc := by
  obtain ⟨⟨p, l, e, R0, s, m, args, below, meth, c⟩, G, Y, base⟩ := Γ
  obtain ⟨hx, hb, hml, hown, hts, hK, hlk, hrt, hR, hbs, -⟩ := h
  intro H locs ls hR1 hS hl
  exact lv_goto hx hb d ht (k H locs ls hR1 hS hl)
theorem V_icmp_ge (h : mOk Γ κ own cc nL ret R) (tgt pc' : Nat) {x y : Int32} {off : Int} (d : decode cc pc = .ok (.if_icmp .ge off, 3)) (ht : (pc : Int) + off = (tgt : Int)) (hp : pc + 3 = pc') (kt : y ≤ x → mV Γ Q kc ks n sh P D E lv st tgt) (kf : ¬ (y ≤ x) → mV Γ Q kc ks n sh P D E lv st pc') : mV Γ Q kc ks n sh P D E lv (.int y :: .int x :: st) pc := by
  obtain ⟨⟨p, l, e, R0, s, m, args, below, meth, c⟩, G, Y, base⟩ := Γ
  obtain ⟨hx, hb, hml, hown, hts, hK, hlk, hrt, hR, hbs, -⟩ := h
  subst hp
  intro H locs ls hR1 hS hl
  exact lv_icmp_ge hx hb d ht (fun q => kt q H locs ls hR1 hS hl) (fun q => kf q H locs ls hR1 hS hl)
theorem V_icmp_eq (h : mOk Γ κ own cc nL ret R) (tgt pc' : Nat) {x y : Int32} {off : Int} (d : decode cc pc = .ok (.if_icmp .eq off, 3)) (ht : (pc : Int) + off = (tgt : Int)) (hp : pc + 3 = pc') (kt : x = y → mV Γ Q kc ks n sh P D E lv st tgt) (kf : ¬ (x = y) → mV Γ Q kc ks n sh P D E lv st pc') : mV Γ Q kc ks n sh P D E lv (.int y :: .int x :: st) pc := by
  obtain ⟨⟨p, l, e, R0, s, m, args, below, meth, c⟩, G, Y, base⟩ := Γ
  obtain ⟨hx, hb, hml, hown, hts, hK, hlk, hrt, hR, hbs, -⟩ := h
  subst hp
  intro H locs ls hR1 hS hl
  exact lv_icmp_eq hx hb d ht (fun q => kt q H locs ls hR1 hS hl) (fun q => kf q H locs ls hR1 hS hl)
theorem V_icmp_gt (h : mOk Γ κ own cc nL ret R) (tgt pc' : Nat) {x y : Int32} {off : Int} (d : decode cc pc = .ok (.if_icmp .gt off, 3)) (ht : (pc : Int) + off = (tgt : Int)) (hp : pc + 3 = pc') (kt : y < x → mV Γ Q kc ks n sh P D E lv st tgt) (kf : ¬ (y < x) → mV Γ Q kc ks n sh P D E lv st pc') : mV Γ Q kc ks n sh P D E lv (.int y :: .int x :: st) pc := by
  obtain ⟨⟨p, l, e, R0, s, m, args, below, meth, c⟩, G, Y, base⟩ := Γ
  obtain ⟨hx, hb, hml, hown, hts, hK, hlk, hrt, hR, hbs, -⟩ := h
  subst hp
  intro H locs ls hR1 hS hl
  exact lv_icmp_gt hx hb d ht (fun q => kt q H locs ls hR1 hS hl) (fun q => kf q H locs ls hR1 hS hl)
theorem V_icmp_le (h : mOk Γ κ own cc nL ret R) (tgt pc' : Nat) {x y : Int32} {off : Int} (d : decode cc pc = .ok (.if_icmp .le off, 3)) (ht : (pc : Int) + off = (tgt : Int)) (hp : pc + 3 = pc') (kt : x ≤ y → mV Γ Q kc ks n sh P D E lv st tgt) (kf : ¬ (x ≤ y) → mV Γ Q kc ks n sh P D E lv st pc') : mV Γ Q kc ks n sh P D E lv (.int y :: .int x :: st) pc := by
  obtain ⟨⟨p, l, e, R0, s, m, args, below, meth, c⟩, G, Y, base⟩ := Γ
  obtain ⟨hx, hb, hml, hown, hts, hK, hlk, hrt, hR, hbs, -⟩ := h
  subst hp
  intro H locs ls hR1 hS hl
  exact lv_icmp_le hx hb d ht (fun q => kt q H locs ls hR1 hS hl) (fun q => kf q H locs ls hR1 hS hl)
theorem V_icmp_lt (h : mOk Γ κ own cc nL ret R) (tgt pc' : Nat) {x y : Int32} {off : Int} (d : decode cc pc = .ok (.if_icmp .lt off, 3)) (ht : (pc : Int) + off = (tgt : Int)) (hp : pc + 3 = pc') (kt : x < y → mV Γ Q kc ks n sh P D E lv st tgt) (kf : ¬ (x < y) → mV Γ Q kc ks n sh P D E lv st pc') : mV Γ Q kc ks n sh P D E lv (.int y :: .int x :: st) pc := by
  obtain ⟨⟨p, l, e, R0, s, m, args, below, meth, c⟩, G, Y, base⟩ := Γ
  obtain ⟨hx, hb, hml, hown, hts, hK, hlk, hrt, hR, hbs, -⟩ := h
  subst hp
  intro H locs ls hR1 hS hl
  exact lv_icmp_lt hx hb d ht (fun q => kt q H locs ls hR1 hS hl) (fun q => kf q H locs ls hR1 hS hl)
theorem V_icmp_ne (h : mOk Γ κ own cc nL ret R) (tgt pc' : Nat) {x y : Int32} {off : Int} (d : decode cc pc = .ok (.if_icmp .ne off, 3)) (ht : (pc : Int) + off = (tgt : Int)) (hp : pc + 3 = pc') (kt : ¬ x = y → mV Γ Q kc ks n sh P D E lv st tgt) (kf : x = y → mV Γ Q kc ks n sh P D E lv st pc') : mV Γ Q kc ks n sh P D E lv (.int y :: .int x :: st) pc := by
  obtain ⟨⟨p, l, e, R0, s, m, args, below, meth, c⟩, G, Y, base⟩ := Γ
  obtain ⟨hx, hb, hml, hown, hts, hK, hlk, hrt, hR, hbs, -⟩ := h
  subst hp
  intro H locs ls hR1 hS hl
  exact lv_icmp_ne hx hb d ht (fun q => kt q H locs ls hR1 hS hl) (fun q => kf q H locs ls hR1 hS hl)
theorem V_if_eq (h : mOk Γ κ own cc nL ret R) (tgt pc' : Nat) {x : Int32} {off : Int} (d : decode cc pc = .ok (.ifCond .eq off, 3)) (ht : (pc : Int) + off = (tgt : Int)) (hp : pc + 3 = pc') (kt : x = 0 → mV Γ Q kc ks n sh P D E lv st tgt) (kf : ¬ (x = 0) → mV Γ Q kc ks n sh P D E lv st pc') : mV Γ Q kc ks n sh P D E lv (.int x :: st) pc := by
  obtain ⟨⟨p, l, e, R0, s, m, args, below, meth, c⟩, G, Y, base⟩ := Γ
  obtain ⟨hx, hb, hml, hown, hts, hK, hlk, hrt, hR, hbs, -⟩ := h
  subst hp
  intro H locs ls hR1 hS hl
  exact lv_if_eq hx hb d ht (fun q => kt q H locs ls hR1 hS hl) (fun q => kf q H locs ls hR1 hS hl)
theorem V_if_lt (h : mOk Γ κ own cc nL ret R) (tgt pc' : Nat) {x : Int32} {off : Int} (d : decode cc pc = .ok (.ifCond .lt off, 3)) (ht : (pc : Int) + off = (tgt : Int)) (hp : pc + 3 = pc') (kt : x < 0 → mV Γ Q kc ks n sh P D E lv st tgt) (kf : ¬ (x < 0) → mV Γ Q kc ks n sh P D E lv st pc') : mV Γ Q kc ks n sh P D E lv (.int x :: st) pc := by
  obtain ⟨⟨p, l, e, R0, s, m, args, below, meth, c⟩, G, Y, base⟩ := Γ
  obtain ⟨hx, hb, hml, hown, hts, hK, hlk, hrt, hR, hbs, -⟩ := h
  subst hp
  intro H locs ls hR1 hS hl
  exact lv_if_lt hx hb d ht (fun q => kt q H locs ls hR1 hS hl) (fun q => kf q H locs ls hR1 hS hl)
theorem V_if_le (h : mOk Γ κ own cc nL ret R) (tgt pc' : Nat) {x : Int32} {off : Int} (d : decode cc pc = .ok (.ifCond .le off, 3)) (ht : (pc : Int) + off = (tgt : Int)) (hp : pc + 3 = pc') (kt : x ≤ 0 → mV Γ Q kc ks n sh P D E lv st tgt) (kf : ¬ (x ≤ 0) → mV Γ Q kc ks n sh P D E lv st pc') : mV Γ Q kc ks n sh P D E lv (.int x :: st) pc := by
  obtain ⟨⟨p, l, e, R0, s, m, args, below, meth, c⟩, G, Y, base⟩ := Γ
  obtain ⟨hx, hb, hml, hown, hts, hK, hlk, hrt, hR, hbs, -⟩ := h
  subst hp
  intro H locs ls hR1 hS hl
  exact lv_if_le hx hb d ht (fun q => kt q H locs ls hR1 hS hl) (fun q => kf q H locs ls hR1 hS hl)
theorem V_if_gt (h : mOk Γ κ own cc nL ret R) (tgt pc' : Nat) {x : Int32} {off : Int} (d : decode cc pc = .ok (.ifCond .gt off, 3)) (ht : (pc : Int) + off = (tgt : Int)) (hp : pc + 3 = pc') (kt : 0 < x → mV Γ Q kc ks n sh P D E lv st tgt) (kf : ¬ (0 < x) → mV Γ Q kc ks n sh P D E lv st pc') : mV Γ Q kc ks n sh P D E lv (.int x :: st) pc := by
  obtain ⟨⟨p, l, e, R0, s, m, args, below, meth, c⟩, G, Y, base⟩ := Γ
  obtain ⟨hx, hb, hml, hown, hts, hK, hlk, hrt, hR, hbs, -⟩ := h
  subst hp
  intro H locs ls hR1 hS hl
  exact lv_if_gt hx hb d ht (fun q => kt q H locs ls hR1 hS hl) (fun q => kf q H locs ls hR1 hS hl)
theorem V_if_ne (h : mOk Γ κ own cc nL ret R) (tgt pc' : Nat) {x : Int32} {off : Int} (d : decode cc pc = .ok (.ifCond .ne off, 3)) (ht : (pc : Int) + off = (tgt : Int)) (hp : pc + 3 = pc') (kt : ¬ x = 0 → mV Γ Q kc ks n sh P D E lv st tgt) (kf : x = 0 → mV Γ Q kc ks n sh P D E lv st pc') : mV Γ Q kc ks n sh P D E lv (.int x :: st) pc := by
  obtain ⟨⟨p, l, e, R0, s, m, args, below, meth, c⟩, G, Y, base⟩ := Γ
  obtain ⟨hx, hb, hml, hown, hts, hK, hlk, hrt, hR, hbs, -⟩ := h
  subst hp
  intro H locs ls hR1 hS hl
  exact lv_if_ne hx hb d ht (fun q => kt q H locs ls hR1 hS hl) (fun q => kf q H locs ls hR1 hS hl)
theorem V_acmp_eq (h : mOk Γ κ own cc nL ret R) (tgt pc' : Nat) {rx ry : Nat} {off : Int} (d : decode cc pc = .ok (.if_acmp .eq off, 3)) (ht : (pc : Int) + off = (tgt : Int)) (hp : pc + 3 = pc') (kt : rx = ry → mV Γ Q kc ks n sh P D E lv st tgt) (kf : ¬ rx = ry → mV Γ Q kc ks n sh P D E lv st pc') : mV Γ Q kc ks n sh P D E lv (.ref ry :: .ref rx :: st) pc := by
  obtain ⟨⟨p, l, e, R0, s, m, args, below, meth, c⟩, G, Y, base⟩ := Γ
  obtain ⟨hx, hb, hml, hown, hts, hK, hlk, hrt, hR, hbs, -⟩ := h
  subst hp
  intro H locs ls hR1 hS hl
  exact lv_acmp_eq (rx := some rx) (ry := some ry) hx hb d ht (fun q => kt (by simpa using q) H locs ls hR1 hS hl) (fun q => kf (by simpa using q) H locs ls hR1 hS hl)
theorem V_acmp_ne (h : mOk Γ κ own cc nL ret R) (tgt pc' : Nat) {rx ry : Nat} {off : Int} (d : decode cc pc = .ok (.if_acmp .ne off, 3)) (ht : (pc : Int) + off = (tgt : Int)) (hp : pc + 3 = pc') (kt : ¬ rx = ry → mV Γ Q kc ks n sh P D E lv st tgt) (kf : rx = ry → mV Γ Q kc ks n sh P D E lv st pc') : mV Γ Q kc ks n sh P D E lv (.ref ry :: .ref rx :: st) pc := by
  obtain ⟨⟨p, l, e, R0, s, m, args, below, meth, c⟩, G, Y, base⟩ := Γ
  obtain ⟨hx, hb, hml, hown, hts, hK, hlk, hrt, hR, hbs, -⟩ := h
  subst hp
  intro H locs ls hR1 hS hl
  exact lv_acmp_ne (rx := some rx) (ry := some ry) hx hb d ht (fun q => kt (by simpa using q) H locs ls hR1 hS hl) (fun q => kf (by simpa using q) H locs ls hR1 hS hl)
theorem V_tabIn (h : mOk Γ κ own cc nL ret R) (tgt : Nat) {dflt lo hi : Int} {offs : Array Int} {len : Nat} {x : Int32} {off : Int} (d : decode cc pc = .ok (.tableswitch dflt lo hi offs, len)) (h1 : ¬ x.toInt < lo) (h2 : ¬ hi < x.toInt) (ho : offs[(x.toInt - lo).toNat]? = some off) (ht : (pc : Int) + off = (tgt : Int)) (k : mV Γ Q kc ks n sh P D E lv st tgt) : mV Γ Q kc ks n sh P D E lv (.int x :: st) pc := by
  obtain ⟨⟨p, l, e, R0, s, m, args, below, meth, c⟩, G, Y, base⟩ := Γ
  obtain ⟨hx, hb, hml, hown, hts, hK, hlk, hrt, hR, hbs, -⟩ := h
  intro H locs ls hR1 hS hl
  exact lv_tableIn hx hb d h1 h2 ho ht (k H locs ls hR1 hS hl)
theorem V_tabOut (h : mOk Γ κ own cc nL ret R) (tgt : Nat) {dflt lo hi : Int} {offs : Array Int} {len : Nat} {x : Int32} (d : decode cc pc = .ok (.tableswitch dflt lo hi offs, len)) (h1 : x.toInt < lo ∨ hi < x.toInt) (ht : (pc : Int) + dflt = (tgt : Int)) (k : mV Γ Q kc ks n sh P D E lv st tgt) : mV Γ Q kc ks n sh P D E lv (.int x :: st) pc := by
  obtain ⟨⟨p, l, e, R0, s, m, args, below, meth, c⟩, G, Y, base⟩ := Γ
  obtain ⟨hx, hb, hml, hown, hts, hK, hlk, hrt, hR, hbs, -⟩ := h
  intro H locs ls hR1 hS hl
  exact lv_tableOut hx hb d h1 ht (k H locs ls hR1 hS hl)
theorem V_ldc2 (h : mOk Γ κ own cc nL ret R) (pc' : Nat) {idx : Nat} {v : Int64} (hq : Cond.constantLong own idx v ∈ mW) (d : decode cc pc = .ok (.ldc2_w idx, 3)) (hp : pc + 3 = pc') (k : mV Γ Q kc ks n sh P D E lv (.long v :: st) pc') : mV Γ Q kc ks n sh P D E lv st pc := by
  obtain ⟨⟨p, l, e, R0, s, m, args, below, meth, c⟩, G, Y, base⟩ := Γ
  obtain ⟨hx, hb, hml, hown, hts, hK, hlk, hrt, hR, hbs, -⟩ := h
  subst hp
  intro H locs ls hR1 hS hl
  exact lv_ldc2 hx hb hown (hts _ hq) d (k H locs ls hR1 hS hl)
theorem V_top {x : Int32} {y : Int32} (e : x = y) (k : mV Γ Q kc ks n sh P D E lv (.int y :: st) pc) : mV Γ Q kc ks n sh P D E lv (.int x :: st) pc := by rw [e]; exact k
theorem V_topi {x : Int32} (k : ∀ y : Int32, y = x → mV Γ Q kc ks n sh P D E lv (.int y :: st) pc) : mV Γ Q kc ks n sh P D E lv (.int x :: st) pc := k x rfl
theorem V_objInit (h : mOk Γ κ own cc nL ret R) (pc' : Nat) {idx a : Nat} (w1 : Cond.methodLink own idx Lib.objectInit ∈ mW) (hf : 1 ≤ R.frames) (hlo : (st.map fun v => v.category).sum + 12 ≤ R.locals) (d : decode cc pc = .ok (.invokespecial idx, 3)) (hp : pc + 3 = pc') (k : mV Γ Q kc ks n sh P D E lv st pc') : mV Γ Q kc ks n sh P D E lv (.ref a :: st) pc := by
  obtain ⟨⟨p, l, e, R0, s, m, args, below, meth, c⟩, G, Y, base⟩ := Γ
  obtain ⟨hx, hb, hml, hown, hts, hK, hlk, hrt, hR, hbs, -⟩ := h
  subst hp
  subst hR
  intro H locs ls hR1 hS hl
  exact W.objInit hx hb hown (hts _ w1) (hts _ qI_Object_init) (hts _ qC_Object_init) rfl hl.1 rfl d hf (by show 2 * 0 + _ + 12 ≤ _; omega) (k H locs ls hR1 hS hl)
theorem V_lsub (lv' : List (Nat × Value)) (is : List Nat) (he : lv_pick lv is = lv') (k : mV Γ Q kc ks n sh P D E lv' st pc) : mV Γ Q kc ks n sh P D E lv st pc := by
  obtain ⟨⟨p, l, e, R0, s, m, args, below, meth, c⟩, G, Y, base⟩ := Γ
  intro H locs ls hR1 hS hl
  exact k H locs ls hR1 hS (lv_sub hl is he)
theorem V_widen (kc' ks' : Nat) (h1 : kc ≤ kc') (h2 : ks ≤ ks') (k : mV Γ Q kc' ks' n sh P D E lv st pc) : mV Γ Q kc ks n sh P D E lv st pc := by
  obtain ⟨⟨p, l, e, R0, s, m, args, below, meth, c⟩, G, Y, base⟩ := Γ
  intro H locs ls hR1 hS hl
  exact W.widen h1 h2 (k H locs ls hR1 hS hl)
theorem V_less (sh' : mSh) (hs : ∀ a x, sh' a = some x → sh a = some x) (k : mV Γ Q kc ks n sh' P D E lv st pc) : mV Γ Q kc ks n sh P D E lv st pc := by
  obtain ⟨⟨p, l, e, R0, s, m, args, below, meth, c⟩, G, Y, base⟩ := Γ
  intro H locs ls hR1 hS hl
  exact k H locs ls (mR_less hR1 hs) hS hl
theorem V_get (h : mOk Γ κ own cc nL ret R) (pc' : Nat) {ci k N idx a : Nat} {C : String} {T : u_T} (hU : ∀ w ∈ u_ws C T N, w ∈ mW) (hc : vwCl[ci]? = some (C, T, N)) (hN : mN ci = N) (hk : k < N) (hq : Cond.fieldLink own idx (T k).1 (T k).2.1 (T k).2.2.1 ∈ mW) (hr : mrk ci k = false) (hs : sh a = some (.inl ci)) (d : decode cc pc = .ok (.getfield idx, 3)) (hp : pc + 3 = pc') (kk : mV Γ Q kc ks n sh P D E lv (.int (D a k) :: st) pc') : mV Γ Q kc ks n sh P D E lv (.ref a :: st) pc := by
  obtain ⟨⟨p, l, e, R0, s, m, args, below, meth, c⟩, G, Y, base⟩ := Γ
  obtain ⟨hx, hb, hml, hown, hts, hK, hlk, hrt, hR, hbs, -⟩ := h
  subst hp
  intro H locs ls hR1 hS hl
  exact va_get hx hb (fun w hw => hts w hw) hU hown hK.1 (mR_one hR1 hs) 0 rfl hc k hk (hts _ hq) (fun _ h9 => h9) (mfl_geti (by rw [hN]; exact hk) hr) d (kk H locs ls hR1 hS hl)
theorem V_getr (h : mOk Γ κ own cc nL ret R) (pc' : Nat) {ci k N idx a b : Nat} {C : String} {T : u_T} (hU : ∀ w ∈ u_ws C T N, w ∈ mW) (hc : vwCl[ci]? = some (C, T, N)) (hN : mN ci = N) (hk : k < N) (hq : Cond.fieldLink own idx (T k).1 (T k).2.1 (T k).2.2.1 ∈ mW) (hr : mrk ci k = true) (hs : sh a = some (.inl ci)) (hPa : P a k = some b) (d : decode cc pc = .ok (.getfield idx, 3)) (hp : pc + 3 = pc') (kk : mV Γ Q kc ks n sh P D E lv (.ref b :: st) pc') : mV Γ Q kc ks n sh P D E lv (.ref a :: st) pc := by
  obtain ⟨⟨p, l, e, R0, s, m, args, below, meth, c⟩, G, Y, base⟩ := Γ
  obtain ⟨hx, hb, hml, hown, hts, hK, hlk, hrt, hR, hbs, -⟩ := h
  subst hp
  intro H locs ls hR1 hS hl
  exact va_get hx hb (fun w hw => hts w hw) hU hown hK.1 (mR_one hR1 hs) 0 rfl hc k hk (hts _ hq) (fun _ h9 => h9) (mfl_getr (by rw [hN]; exact hk) hr hPa) d (kk H locs ls hR1 hS hl)
theorem V_getN (h : mOk Γ κ own cc nL ret R) (pc' : Nat) {ci k N idx a : Nat} {C host : String} {T : u_T} (hU : ∀ w ∈ u_ws C T N, w ∈ mW) (hc : vwCl[ci]? = some (C, T, N)) (hN : mN ci = N) (hk : k < N) (hq : Cond.fieldLinkNest own idx (T k).1 (T k).2.1 (T k).2.2.1 host ∈ mNest) (hr : mrk ci k = false) (hs : sh a = some (.inl ci)) (d : decode cc pc = .ok (.getfield idx, 3)) (hp : pc + 3 = pc') (kk : mV Γ Q kc ks n sh P D E lv (.int (D a k) :: st) pc') : mV Γ Q kc ks n sh P D E lv (.ref a :: st) pc := by
  obtain ⟨⟨p, l, e, R0, s, m, args, below, meth, c⟩, G, Y, base⟩ := Γ
  obtain ⟨hx, hb, hml, hown, hts, hK, hlk, hrt, hR, hbs, -⟩ := h
  subst hp
  intro H locs ls hR1 hS hl
  exact va_getN hx hb (fun w hw => hts w hw) hU hown hK.1 (mR_one hR1 hs) 0 rfl hc k hk (va_Nw.use rfl (hK.2.1 _ hq)) (fun _ h9 => h9) (mfl_geti (by rw [hN]; exact hk) hr) d (kk H locs ls hR1 hS hl)
theorem V_getrN (h : mOk Γ κ own cc nL ret R) (pc' : Nat) {ci k N idx a b : Nat} {C host : String} {T : u_T} (hU : ∀ w ∈ u_ws C T N, w ∈ mW) (hc : vwCl[ci]? = some (C, T, N)) (hN : mN ci = N) (hk : k < N) (hq : Cond.fieldLinkNest own idx (T k).1 (T k).2.1 (T k).2.2.1 host ∈ mNest) (hr : mrk ci k = true) (hs : sh a = some (.inl ci)) (hPa : P a k = some b) (d : decode cc pc = .ok (.getfield idx, 3)) (hp : pc + 3 = pc') (kk : mV Γ Q kc ks n sh P D E lv (.ref b :: st) pc') : mV Γ Q kc ks n sh P D E lv (.ref a :: st) pc := by
  obtain ⟨⟨p, l, e, R0, s, m, args, below, meth, c⟩, G, Y, base⟩ := Γ
  obtain ⟨hx, hb, hml, hown, hts, hK, hlk, hrt, hR, hbs, -⟩ := h
  subst hp
  intro H locs ls hR1 hS hl
  exact va_getN hx hb (fun w hw => hts w hw) hU hown hK.1 (mR_one hR1 hs) 0 rfl hc k hk (va_Nw.use rfl (hK.2.1 _ hq)) (fun _ h9 => h9) (mfl_getr (by rw [hN]; exact hk) hr hPa) d (kk H locs ls hR1 hS hl)
/-- a cell whose field is written, and the rest of the memory -/
theorem mR_put {G : va_G} {Y : Nat → ClassId} {base n : Nat} {sh : mSh} {P : mPt} {D : mDt} {E : mEt} {H H1 : Heap} (h : mR G Y base n sh P D E H) {a ci k : Nat} {x : Int32} (hs : sh a = some (.inl ci)) (hr : mrk ci k = false) (hz : H1.size = H.size) (hat : va_at G vwCl (a, .inr (ci, (mfl ci (P a) (D a)).set k (.int x))) H1) (oq : ∀ q : Nat, q ≠ a → H1[q]? = H[q]?) : mR G Y base n sh P (upd2 D a k x) E H1 := by
  refine mR_set h hs hz ?_ oq (fun _ _ => rfl) (fun b hb => upd2_ra hb) (fun _ _ => rfl)
  rw [upd2_row]
  rw [mfl_seti hr] at hat
  exact hat
theorem mR_putr {G : va_G} {Y : Nat → ClassId} {base n : Nat} {sh : mSh} {P : mPt} {D : mDt} {E : mEt} {H H1 : Heap} (h : mR G Y base n sh P D E H) {a ci k b : Nat} (hs : sh a = some (.inl ci)) (hr : mrk ci k = true) (hz : H1.size = H.size) (hat : va_at G vwCl (a, .inr (ci, (mfl ci (P a) (D a)).set k (.ref b))) H1) (oq : ∀ q : Nat, q ≠ a → H1[q]? = H[q]?) : mR G Y base n sh (updP P a k (some b)) D E H1 := by
  refine mR_set h hs hz ?_ oq (fun b hb => updP_ra hb) (fun _ _ => rfl) (fun _ _ => rfl)
  rw [updP_row]
  rw [show Value.ref b = va_rf (some b) from rfl, mfl_setr hr] at hat
  exact hat

def mInit (Γ : mC) : Prop := match Γ with
  | ((p, l, e, R, s, m, args, below, meth, c), (G, Y, base)) => meth.name = "<init>"
theorem V_put (h : mOk Γ κ own cc nL ret R) (pc' : Nat) {ci k N idx a : Nat} {x : Int32} {C host : String} {T : u_T} {ty : FieldType} (ty0 : Nat → FieldType) (hty : ∀ k, k < N → parseFieldDescriptor (T k).2.2.1 = some (ty0 k)) (hnm : ∀ a, a < N → ∀ b, b < N → a ≠ b → (T a).2.1 ≠ (T b).2.1) (hU : ∀ w ∈ u_ws C T N, w ∈ mW) (hc : vwCl[ci]? = some (C, T, N)) (hN : mN ci = N) (hk : k < N) (hq : Cond.fieldLink own idx (T k).1 (T k).2.1 (T k).2.2.1 ∈ mW) (hr : mrk ci k = false) (hfin : (T k).2.2.2 = false) (hd : parseFieldDescriptor (T k).2.2.1 = some ty) (hn : narrow ty (.int x) = .int x) (hfit : fits ty (.int x) = true) (hs : sh a = some (.inl ci)) (d : decode cc pc = .ok (.putfield idx, 3)) (hp : pc + 3 = pc') (kk : mV Γ Q kc ks n sh P (upd2 D a k x) E lv st pc') : mV Γ Q kc ks n sh P D E lv (.int x :: .ref a :: st) pc := by
  obtain ⟨⟨p, l, e, R0, s, m, args, below, meth, c⟩, G, Y, base⟩ := Γ
  obtain ⟨hx, hb, hml, hown, hts, hK, hlk, hrt, hR, hbs, -⟩ := h
  subst hp
  intro H locs ls hR1 hS hl
  have hap := va_apart (own := own) (fun w hw => hts w hw) hU ty0 hty hnm hK.1 hc
  obtain ⟨hba, r, h1, cell, q1, q2, q3, q4⟩ := hR1.2 a _ hs
  have hr1 : r = (C, T, N) := Option.some.inj (h1.symm.trans hc)
  subst hr1
  obtain ⟨hS1, hfc, kC, hkC, hkind⟩ := hK.1.1 ci _ hc
  obtain ⟨cf, kf, fi, f, hi, hsl⟩ := hS1 k hk
  have hlay := hts _ (hU _ (u_in_lay hk))
  unfold u_lay at hlay
  rw [if_neg (by rw [hfin]; decide)] at hlay
  have hst := (u_facts hfc hkC (u_lays (fun w hw => hts w hw) hU hk) hi).1
  have h6 := u_store hfc hkC hkind hlay hi hd hn hfit
  refine W.putK hx hb (f := f) ⟨hown, hts _ hq, ⟨_, _, _, hi⟩, hst⟩ (by rw [q2]; exact h6) q1 q3 (by rw [hsl]; exact k2_hasslot (q4 k hk)) rfl rfl d fun H' e1 e2 e3 => ?_
  rw [hsl] at e1 ⊢
  exact kk H' _ ls (mR_put hR1 hs hr e2 ⟨_, hc, t_OB.to (V := updV (vp_V (mfl ci (P a) (D a))) k (.int x)) ⟨_, e1, q2, q3, t_set q4 hap hk (.int x)⟩ (fun j _ => vp_updV_set (by rw [mfl_len, hN]; exact hk) (.int x) j)⟩ e3) (hS.put e2 e3 hba) hl

theorem V_putN (h : mOk Γ κ own cc nL ret R) (pc' : Nat) {ci k N idx a : Nat} {x : Int32} {C host : String} {T : u_T} {ty : FieldType} (ty0 : Nat → FieldType) (hty : ∀ k, k < N → parseFieldDescriptor (T k).2.2.1 = some (ty0 k)) (hnm : ∀ a, a < N → ∀ b, b < N → a ≠ b → (T a).2.1 ≠ (T b).2.1) (hU : ∀ w ∈ u_ws C T N, w ∈ mW) (hc : vwCl[ci]? = some (C, T, N)) (hN : mN ci = N) (hk : k < N) (hq : Cond.fieldLinkNest own idx (T k).1 (T k).2.1 (T k).2.2.1 host ∈ mNest) (hr : mrk ci k = false) (hfin : (T k).2.2.2 = false) (hd : parseFieldDescriptor (T k).2.2.1 = some ty) (hn : narrow ty (.int x) = .int x) (hfit : fits ty (.int x) = true) (hs : sh a = some (.inl ci)) (d : decode cc pc = .ok (.putfield idx, 3)) (hp : pc + 3 = pc') (kk : mV Γ Q kc ks n sh P (upd2 D a k x) E lv st pc') : mV Γ Q kc ks n sh P D E lv (.int x :: .ref a :: st) pc := by
  obtain ⟨⟨p, l, e, R0, s, m, args, below, meth, c⟩, G, Y, base⟩ := Γ
  obtain ⟨hx, hb, hml, hown, hts, hK, hlk, hrt, hR, hbs, -⟩ := h
  subst hp
  intro H locs ls hR1 hS hl
  have hap := va_apart (own := own) (fun w hw => hts w hw) hU ty0 hty hnm hK.1 hc
  obtain ⟨hba, r, h1, cell, q1, q2, q3, q4⟩ := hR1.2 a _ hs
  have hr1 : r = (C, T, N) := Option.some.inj (h1.symm.trans hc)
  subst hr1
  obtain ⟨hS1, hfc, kC, hkC, hkind⟩ := hK.1.1 ci _ hc
  obtain ⟨cf, kf, fi, f, hi, hsl⟩ := hS1 k hk
  have hlay := hts _ (hU _ (u_in_lay hk))
  unfold u_lay at hlay
  rw [if_neg (by rw [hfin]; decide)] at hlay
  have hst := (u_facts hfc hkC (u_lays (fun w hw => hts w hw) hU hk) hi).1
  have h6 := u_store hfc hkC hkind hlay hi hd hn hfit
  refine va_WputK hx hb (f := f) hown (va_Nw.use rfl (hK.2.1 _ hq)) hi hst (by rw [q2]; exact h6) q1 q3 (by rw [hsl]; exact k2_hasslot (q4 k hk)) rfl rfl d fun H' e1 e2 e3 => ?_
  rw [hsl] at e1 ⊢
  exact kk H' _ ls (mR_put hR1 hs hr e2 ⟨_, hc, t_OB.to (V := updV (vp_V (mfl ci (P a) (D a))) k (.int x)) ⟨_, e1, q2, q3, t_set q4 hap hk (.int x)⟩ (fun j _ => vp_updV_set (by rw [mfl_len, hN]; exact hk) (.int x) j)⟩ e3) (hS.put e2 e3 hba) hl

theorem V_putF (h : mOk Γ κ own cc nL ret R) (pc' : Nat) {ci k N idx a : Nat} {x : Int32} {C host : String} {T : u_T} {ty : FieldType} (ty0 : Nat → FieldType) (hty : ∀ k, k < N → parseFieldDescriptor (T k).2.2.1 = some (ty0 k)) (hnm : ∀ a, a < N → ∀ b, b < N → a ≠ b → (T a).2.1 ≠ (T b).2.1) (hU : ∀ w ∈ u_ws C T N, w ∈ mW) (hc : vwCl[ci]? = some (C, T, N)) (hN : mN ci = N) (hk : k < N) (hq : Cond.fieldLink own idx (T k).1 (T k).2.1 (T k).2.2.1 ∈ mW) (hr : mrk ci k = false) (hfin : (T k).2.2.2 = true) (hin2 : mInit Γ) (hdecl : (T k).1 = own) (hd : parseFieldDescriptor (T k).2.2.1 = some ty) (hn : narrow ty (.int x) = .int x) (hfit : fits ty (.int x) = true) (hs : sh a = some (.inl ci)) (d : decode cc pc = .ok (.putfield idx, 3)) (hp : pc + 3 = pc') (kk : mV Γ Q kc ks n sh P (upd2 D a k x) E lv st pc') : mV Γ Q kc ks n sh P D E lv (.int x :: .ref a :: st) pc := by
  obtain ⟨⟨p, l, e, R0, s, m, args, below, meth, c⟩, G, Y, base⟩ := Γ
  obtain ⟨hx, hb, hml, hown, hts, hK, hlk, hrt, hR, hbs, -⟩ := h
  subst hp
  intro H locs ls hR1 hS hl
  have hap := va_apart (own := own) (fun w hw => hts w hw) hU ty0 hty hnm hK.1 hc
  obtain ⟨hba, r, h1, cell, q1, q2, q3, q4⟩ := hR1.2 a _ hs
  have hr1 : r = (C, T, N) := Option.some.inj (h1.symm.trans hc)
  subst hr1
  obtain ⟨hS1, hfc, kC, hkC, hkind⟩ := hK.1.1 ci _ hc
  obtain ⟨cf, kf, fi, f, hi, hsl⟩ := hS1 k hk
  have hlay := hts _ (hU _ (u_in_lay hk))
  unfold u_lay at hlay
  rw [if_pos hfin] at hlay
  have hst := (u_facts hfc hkC (u_lays (fun w hw => hts w hw) hU hk) hi).1
  have hcf : m.cls = cf := by
    obtain ⟨_, _, c', _, _, _, -, -, hf', -, -, -, hown2, -⟩ := Cond.laysFinal_spec hlay
    have e1 : c' = cf := by have := hi.symm.trans hf'; simp at this; exact this.1.symm
    rw [hdecl] at hown2
    rw [← e1]; exact Option.some.inj (hown.symm.trans hown2)
  have h6 := u_fits hfc hkC hkind (Or.inr hlay) hi hd hn hfit
  refine W.putFinK hx hb hown (hts _ hq) hi hst hcf hin2 (by rw [q2]; exact h6) q1 q3 (by rw [hsl]; exact k2_hasslot (q4 k hk)) rfl rfl d fun H' e1 e2 e3 => ?_
  rw [hsl] at e1 ⊢
  exact kk H' _ ls (mR_put hR1 hs hr e2 ⟨_, hc, t_OB.to (V := updV (vp_V (mfl ci (P a) (D a))) k (.int x)) ⟨_, e1, q2, q3, t_set q4 hap hk (.int x)⟩ (fun j _ => vp_updV_set (by rw [mfl_len, hN]; exact hk) (.int x) j)⟩ e3) (hS.put e2 e3 hba) hl

theorem V_putFr (h : mOk Γ κ own cc nL ret R) (pc' : Nat) {ci k N idx a : Nat} {b : Nat} {C host : String} {T : u_T} {ty : FieldType} (ty0 : Nat → FieldType) (hty : ∀ k, k < N → parseFieldDescriptor (T k).2.2.1 = some (ty0 k)) (hnm : ∀ a, a < N → ∀ b, b < N → a ≠ b → (T a).2.1 ≠ (T b).2.1) (hU : ∀ w ∈ u_ws C T N, w ∈ mW) (hc : vwCl[ci]? = some (C, T, N)) (hN : mN ci = N) (hk : k < N) (hq : Cond.fieldLink own idx (T k).1 (T k).2.1 (T k).2.2.1 ∈ mW) (hr : mrk ci k = true) (hfin : (T k).2.2.2 = true) (hin2 : mInit Γ) (hdecl : (T k).1 = own) (hd : parseFieldDescriptor (T k).2.2.1 = some ty) (hn : narrow ty (.ref b) = .ref b) (hfit : fits ty (.ref b) = true) (hs : sh a = some (.inl ci)) (d : decode cc pc = .ok (.putfield idx, 3)) (hp : pc + 3 = pc') (kk : mV Γ Q kc ks n sh (updP P a k (some b)) D E lv st pc') : mV Γ Q kc ks n sh P D E lv (.ref b :: .ref a :: st) pc := by
  obtain ⟨⟨p, l, e, R0, s, m, args, below, meth, c⟩, G, Y, base⟩ := Γ
  obtain ⟨hx, hb, hml, hown, hts, hK, hlk, hrt, hR, hbs, -⟩ := h
  subst hp
  intro H locs ls hR1 hS hl
  have hap := va_apart (own := own) (fun w hw => hts w hw) hU ty0 hty hnm hK.1 hc
  obtain ⟨hba, r, h1, cell, q1, q2, q3, q4⟩ := hR1.2 a _ hs
  have hr1 : r = (C, T, N) := Option.some.inj (h1.symm.trans hc)
  subst hr1
  obtain ⟨hS1, hfc, kC, hkC, hkind⟩ := hK.1.1 ci _ hc
  obtain ⟨cf, kf, fi, f, hi, hsl⟩ := hS1 k hk
  have hlay := hts _ (hU _ (u_in_lay hk))
  unfold u_lay at hlay
  rw [if_pos hfin] at hlay
  have hst := (u_facts hfc hkC (u_lays (fun w hw => hts w hw) hU hk) hi).1
  have hcf : m.cls = cf := by
    obtain ⟨_, _, c', _, _, _, -, -, hf', -, -, -, hown2, -⟩ := Cond.laysFinal_spec hlay
    have e1 : c' = cf := by have := hi.symm.trans hf'; simp at this; exact this.1.symm
    rw [hdecl] at hown2
    rw [← e1]; exact Option.some.inj (hown.symm.trans hown2)
  have h6 := u_fits hfc hkC hkind (Or.inr hlay) hi hd hn hfit
  refine W.putFinK hx hb hown (hts _ hq) hi hst hcf hin2 (by rw [q2]; exact h6) q1 q3 (by rw [hsl]; exact k2_hasslot (q4 k hk)) rfl rfl d fun H' e1 e2 e3 => ?_
  rw [hsl] at e1 ⊢
  exact kk H' _ ls (mR_putr hR1 hs hr e2 ⟨_, hc, t_OB.to (V := updV (vp_V (mfl ci (P a) (D a))) k (.ref b)) ⟨_, e1, q2, q3, t_set q4 hap hk (.ref b)⟩ (fun j _ => vp_updV_set (by rw [mfl_len, hN]; exact hk) (.ref b) j)⟩ e3) (hS.put e2 e3 hba) hl

theorem V_iald (h : mOk Γ κ own cc nL ret R) (pc' : Nat) {a len : Nat} (j : Nat) {i : Int32} (hs : sh a = some (.inr (0, len))) (hi : i = nI j) (hj : j < len) (hlen : len < 2 ^ 31) (d : decode cc pc = .ok (.iaload, 1)) (hp : pc + 1 = pc') (kk : mV Γ Q kc ks n sh P D E lv (.int (D a j) :: st) pc') : mV Γ Q kc ks n sh P D E lv (.int i :: .ref a :: st) pc := by
  obtain ⟨⟨p, l, e, R0, s, m, args, below, meth, c⟩, G, Y, base⟩ := Γ
  obtain ⟨hx, hb, hml, hown, hts, hK, hlk, hrt, hR, hbs, -⟩ := h
  subst hp
  subst hi
  intro H locs ls hR1 hS hl
  have h1 := kk H locs ls hR1 hS hl
  refine va_iald hx hb hK.1 (mR_one hR1 hs) 0 0 rfl rfl (vp_in_nI hj hlen) d ?_
  rw [nI_clamp (show j < 2 ^ 31 by omega)]
  exact h1
theorem V_aald (h : mOk Γ κ own cc nL ret R) (pc' : Nat) {a len b t : Nat} (j : Nat) {i : Int32} (ht : t = 1 ∨ t = 2) (hs : sh a = some (.inr (t, len))) (hi : i = nI j) (hj : j < len) (hlen : len < 2 ^ 31) (hPa : P a j = some b) (d : decode cc pc = .ok (.aaload, 1)) (hp : pc + 1 = pc') (kk : mV Γ Q kc ks n sh P D E lv (.ref b :: st) pc') : mV Γ Q kc ks n sh P D E lv (.int i :: .ref a :: st) pc := by
  obtain ⟨⟨p, l, e, R0, s, m, args, below, meth, c⟩, G, Y, base⟩ := Γ
  obtain ⟨hx, hb, hml, hown, hts, hK, hlk, hrt, hR, hbs, -⟩ := h
  subst hp
  subst hi
  intro H locs ls hR1 hS hl
  have h1 := kk H locs ls hR1 hS hl
  have e1 : (nI j).toNatClampNeg = j := nI_clamp (show j < 2 ^ 31 by omega)
  have hin := vp_in_nI hj hlen
  have hv : va_rf (P a (nI j).toNatClampNeg) = .ref b := by rw [e1, hPa]; rfl
  rcases ht with rfl | rfl
  · exact W.aald (v := .ref b) (ty := .object RX3) hx hb ((mR_one hR1 hs) 0 _ rfl) ((hK.1.2 1 _ rfl).1 len (fun j => va_rf (P a j))) rfl (fun q => by cases q) (by show ¬ ((nI j) < 0 ∨ (arrV _ _ _).slots.size ≤ _); rw [arrV_size]; exact hin) (by show (arrV _ _ _).slots[_]? = _; rw [arrV_read _ _ (by rw [e1]; exact hj), hv]) rfl rfl d h1
  · exact W.aald (v := .ref b) (ty := .array .int) hx hb ((mR_one hR1 hs) 0 _ rfl) ((hK.1.2 2 _ rfl).1 len (fun j => va_rf (P a j))) rfl (fun q => by cases q) (by show ¬ ((nI j) < 0 ∨ (arrV _ _ _).slots.size ≤ _); rw [arrV_size]; exact hin) (by show (arrV _ _ _).slots[_]? = _; rw [arrV_read _ _ (by rw [e1]; exact hj), hv]) rfl rfl d h1
theorem V_iast (h : mOk Γ κ own cc nL ret R) (pc' : Nat) {a len : Nat} (j : Nat) {i x : Int32} (hs : sh a = some (.inr (0, len))) (hi : i = nI j) (hj : j < len) (hlen : len < 2 ^ 31) (d : decode cc pc = .ok (.iastore, 1)) (hp : pc + 1 = pc') (kk : mV Γ Q kc ks n sh P (upd2 D a j x) E lv st pc') : mV Γ Q kc ks n sh P D E lv (.int x :: .int i :: .ref a :: st) pc := by
  obtain ⟨⟨p, l, e, R0, s, m, args, below, meth, c⟩, G, Y, base⟩ := Γ
  obtain ⟨hx, hb, hml, hown, hts, hK, hlk, hrt, hR, hbs, -⟩ := h
  subst hp
  subst hi
  intro H locs ls hR1 hS hl
  have e1 : (nI j).toNatClampNeg = j := nI_clamp (show j < 2 ^ 31 by omega)
  obtain ⟨hba, hat⟩ := hR1.2 a _ hs
  refine W.iast hx hb ((mR_one hR1 hs) 0 _ rfl) ((hK.1.2 0 _ rfl).1 len (fun j => .int (D a j))) (fun q => by cases q) (by show ¬ ((nI j) < 0 ∨ (arrV _ _ _).slots.size ≤ _); rw [arrV_size]; exact vp_in_nI hj hlen) rfl rfl d fun H1 e z oq => ?_
  refine kk H1 _ ls (mR_set hR1 hs z ?_ oq (fun _ _ => rfl) (fun b hb => upd2_ra hb) (fun _ _ => rfl)) (hS.put z oq hba) hl
  show H1[a]? = some (vp_cell _ _)
  rw [e, e1, upd2_row]
  show some ((arrV (Y 0) len (fun q => .int (D a q))).setSlot j (.int x)) = some (arrV (Y 0) len (fun q => .int (upd (D a) j x q)))
  rw [arrV_store]
  congr 2
  funext q
  by_cases hq : q = j
  · subst hq
    simp [updV, upd]
  · simp [updV, upd, hq]
theorem V_alen (h : mOk Γ κ own cc nL ret R) (pc' : Nat) {a len : Nat} {v : Int32} (t : Nat) (ht : t = 0 ∨ t = 1) (hs : sh a = some (.inr (t, len))) (hv : Int32.ofNat len = v) (d : decode cc pc = .ok (.arraylength, 1)) (hp : pc + 1 = pc') (kk : mV Γ Q kc ks n sh P D E lv (.int v :: st) pc') : mV Γ Q kc ks n sh P D E lv (.ref a :: st) pc := by
  obtain ⟨⟨p, l, e, R0, s, m, args, below, meth, c⟩, G, Y, base⟩ := Γ
  obtain ⟨hx, hb, hml, hown, hts, hK, hlk, hrt, hR, hbs, -⟩ := h
  subst hp
  intro H locs ls hR1 hS hl
  rcases ht with rfl | rfl
  · exact va_alen (x := (len, .inl (D a))) hx hb hK.1 (mR_one hR1 hs) 0 0 rfl rfl hv d (kk H locs ls hR1 hS hl)
  · exact va_alen (x := (len, .inr (.inr (.inr (.inr (P a)))))) hx hb hK.1 (mR_one hR1 hs) 0 1 rfl rfl hv d (kk H locs ls hR1 hS hl)

end MV
end
section
def mNk : Cond → Bool
  | .fieldLinkNest _ _ _ _ _ _ => true
  | .methodLinkNest _ _ _ _ => true
  | _ => false
theorem mNest_k : ∀ w ∈ mNest, mNk w = true := by decide +kernel
theorem mNk_on {w : Cond} (h : mNk w = true) : w.onTables = true := by
  cases w <;> first | rfl | exact absurd h (by simp [mNk])
theorem mNk_warm {w : Cond} (h : mNk w = true) {s U : State} (hW : s.WarmedH U.vm) (hZ : va_Nw w s) : va_Nw w U := by
  cases w <;> first | exact va_Nw.warmF hW hZ | exact va_Nw.warmM hW hZ | exact absurd h (by simp [mNk])
theorem mKx_warm {G : va_G} {Y : Nat → ClassId} {s U : State} (hW : s.WarmedH U.vm) (h : mKx G Y s) : mKx G Y U := ⟨va_K.moved hW.alike h.1, fun w hw => mNk_warm (mNest_k w hw) hW (h.2.1 w hw), va_AO.moved hW.alike h.2.2.1, mAO2_moved hW.alike h.2.2.2⟩
theorem mKx_same {G : va_G} {Y : Nat → ClassId} {s U : State} (hv : s.vm = U.vm) (h : mKx G Y s) : mKx G Y U := ⟨va_K.moved (by rw [hv]; exact Vm.Alike.refl _) h.1, fun w hw => va_Nw.same (mNk_on (mNest_k w hw)) hv (h.2.1 w hw), va_AO.moved (by rw [hv]; exact Vm.Alike.refl _) h.2.2.1, mAO2_moved (by rw [hv]; exact Vm.Alike.refl _) h.2.2.2⟩
abbrev mPost : Type := Option Value → Nat → mSh → mPt → mDt → mEt → Prop
def mPre (G : va_G) (Y : Nat → ClassId) (base n : Nat) (sh : mSh) (P : mPt) (D : mDt) (E : mEt) (U : State) : Prop := mKx G Y U ∧ base ≤ n ∧ mR G Y base n sh P D E U.heap
def mQ (G : va_G) (Y : Nat → ClassId) (base : Nat) (post : mPost) : Array Value → State → Outcome → State → Prop := fun _ st o t => (∃ (v : Option Value) (n' : Nat) (sh' : mSh) (P' : mPt) (D' : mDt) (E' : mEt), o = .returned v ∧ post v n' sh' P' D' E' ∧ mR G Y base n' sh' P' D' E' t.heap) ∧ va_F (fun q => base ≤ q) st t
/-- y's contract: from the memory (n, sh, P, D, E), with the arguments As, it returns, and post holds of its answer and the memory behind it -/
def mMet (κ : mKp) (y : MethodName) (cc : ByteArray) (nL : Nat) (ret : Option FieldType) (rm : Room) (As : List Value) (n : Nat) (sh : mSh) (P : mPt) (D : mDt) (E : mEt) (post : mPost) : Prop := match κ with
  | (l, G, Y, base) => Met l y (.code y cc nL ret :: mW) rm (va_Pc As (mPre G Y base n sh P D E)) (mQ G Y base post) rm.cells rm.slots (fun q => base ≤ q)
def mEnd (Γ : mC) (post : mPost) (mc ms : Nat) : State → Prop := match Γ with
  | ((p, l, e, R, s, m, args, below, meth, c), (G, Y, base)) => MQ below (mQ G Y base post) args s mc ms (fun q => base ≤ q)
theorem mBlind {As : List Value} {G : va_G} {Y : Nat → ClassId} {base n : Nat} {sh : mSh} {P : mPt} {D : mDt} {E : mEt} : FrameBlind (va_Pc As (mPre G Y base n sh P D E)) := fun a U g mk q => by
  obtain ⟨q0, qK, q1, q2⟩ := q
  exact ⟨q0, mKx_same (s := U) (U := U.calling g mk a) rfl qK, q1, q2⟩
theorem mGood {y : MethodName} {cc : ByteArray} {nL : Nat} {ret : Option FieldType} (h : Cond.code y cc nL ret ∈ mW) : GoodIn mW (.code y cc nL ret :: mW) := by
  intro w hw
  have hm : w ∈ mW := by
    rcases List.mem_cons.mp hw with h1 | h1
    · rw [h1]; exact h
    · exact h1
  exact ⟨hm, good_of_word (mWgood hm)⟩
theorem mMet_of {κ : mKp} {y : MethodName} {cc : ByteArray} {nL : Nat} {ret : Option FieldType} {rm : Room} {As : List Value} {n : Nat} {sh : mSh} {P : mPt} {D : mDt} {E : mEt} {post : mPost} (hy : plainName y.cls = true) (hlen : (lg_sl As).length ≤ nL)
    (body : ∀ (Γ : mC) (Q : State → Prop), Q = mEnd Γ post rm.cells rm.slots → mOk Γ κ y.cls cc nL ret rm → (y.name = "<init>" → mInit Γ) → mV Γ Q 0 0 n sh P D E (lv_args 0 As) [] 0) : mMet κ y cc nL ret rm As n sh P D E post := by
  obtain ⟨l, G, Y, base⟩ := κ
  refine Met.ofW (cc := cc) (maxL := nL) (ret := ret) hy rfl ?_
  intro p e s m args below meth c s₁ B hml hv
  obtain ⟨rfl, hK, hbn, hR⟩ := hv
  have hts := atoms_spec (ws := Cond.code y cc nL ret :: mW) B.pre
  have hown : s.vm.findClass y.cls = some m.cls := findClass_of_methodNamed B.named
  have hbs : base ≤ s.heap.size := by rw [hR.1]; exact hbn
  have hok : mOk ((p, l, e, (headSpec (Cond.code y cc nL ret :: mW) rm).room, s, m, As.toArray, below, meth, c), (G, Y, base)) (l, G, Y, base) y.cls cc nL ret rm := ⟨B.exec, B.bytes, hml, hown, fun w hw => hts w (List.mem_cons_of_mem _ hw), hK, B.notSynchronized, B.returns, rfl, hbs, rfl⟩
  have hin : y.name = "<init>" → meth.name = "<init>" := fun h => by rw [(name_of_methodNamed B.named B.method).1]; exact h
  have hl := lv_entry As (n := nL) hlen
  rw [lg_entry_eq]
  have hb0 := body _ _ rfl hok hin s.heap [] _ hR va_S.rf (show lv_has _ c.maxLocals _ by rw [hml]; exact hl)
  exact hb0
section MC
variable {Γ : mC} {κ : mKp} {Q : State → Prop} {kc ks n : Nat} {sh : mSh} {P : mPt} {D : mDt} {E : mEt} {lv : List (Nat × Value)} {st : List Value} {pc : Nat} {own : String} {cc : ByteArray} {nL : Nat} {ret : Option FieldType} {R : Room} {post : mPost} {mc ms : Nat}

theorem V_iret {ty : FieldType} (h : mOk Γ κ own cc nL (some ty) R) {v : Int32} (hn : narrow ty (.int v) = .int v) (hQ : Q = mEnd Γ post mc ms) (hc : kc ≤ mc) (hs : ks ≤ ms) (hpost : post (some (.int v)) n sh P D E) (d : decode cc pc = .ok (.ireturn, 1)) : mV Γ Q kc ks n sh P D E lv [.int v] pc := by
  obtain ⟨⟨p, l, e, R0, s, m, args, below, meth, c⟩, G, Y, base⟩ := Γ
  obtain ⟨hx, hb, hml, hown, hts, hK, hlk, hrt, hR, hbs, hκ⟩ := h
  subst hQ
  intro H locs ls hR1 hS hl
  refine W.widen hc hs ?_
  exact W.zret hx hb hrt hn (fun t ht hW => ⟨⟨_, _, _, _, _, _, rfl, hpost, by rw [ht]; exact hR1⟩, hS.F ht⟩) (fun q hq => hS.2.2 q hq) d hlk
theorem V_lret {ty : FieldType} (h : mOk Γ κ own cc nL (some ty) R) {v : Int64} (hn : ty = .long) (hQ : Q = mEnd Γ post mc ms) (hc : kc ≤ mc) (hs : ks ≤ ms) (hpost : post (some (.long v)) n sh P D E) (d : decode cc pc = .ok (.lreturn, 1)) : mV Γ Q kc ks n sh P D E lv [.long v] pc := by
  obtain ⟨⟨p, l, e, R0, s, m, args, below, meth, c⟩, G, Y, base⟩ := Γ
  obtain ⟨hx, hb, hml, hown, hts, hK, hlk, hrt, hR, hbs, hκ⟩ := h
  subst hQ
  intro H locs ls hR1 hS hl
  refine W.widen hc hs ?_
  exact W.lret hx hb (by rw [hrt, hn]) (fun t ht hW => ⟨⟨_, _, _, _, _, _, rfl, hpost, by rw [ht]; exact hR1⟩, hS.F ht⟩) (fun q hq => hS.2.2 q hq) d hlk
theorem V_aret {ty : FieldType} (h : mOk Γ κ own cc nL (some ty) R) {v : Nat} (hn : (∃ q, ty = .object q) ∨ ∃ t, ty = .array t) (hQ : Q = mEnd Γ post mc ms) (hc : kc ≤ mc) (hs : ks ≤ ms) (hpost : post (some (.ref v)) n sh P D E) (d : decode cc pc = .ok (.areturn, 1)) : mV Γ Q kc ks n sh P D E lv [.ref v] pc := by
  obtain ⟨⟨p, l, e, R0, s, m, args, below, meth, c⟩, G, Y, base⟩ := Γ
  obtain ⟨hx, hb, hml, hown, hts, hK, hlk, hrt, hR, hbs, hκ⟩ := h
  subst hQ
  intro H locs ls hR1 hS hl
  refine W.widen hc hs ?_
  exact W.aret hx hb hrt hn (Or.inr ⟨_, rfl⟩) (fun t ht hW => ⟨⟨_, _, _, _, _, _, rfl, hpost, by rw [ht]; exact hR1⟩, hS.F ht⟩) (fun q hq => hS.2.2 q hq) d hlk
theorem V_ret (h : mOk Γ κ own cc nL none R) (hQ : Q = mEnd Γ post mc ms) (hc : kc ≤ mc) (hs : ks ≤ ms) (hpost : post none n sh P D E) (d : decode cc pc = .ok (.return_, 1)) : mV Γ Q kc ks n sh P D E lv [] pc := by
  obtain ⟨⟨p, l, e, R0, s, m, args, below, meth, c⟩, G, Y, base⟩ := Γ
  obtain ⟨hx, hb, hml, hown, hts, hK, hlk, hrt, hR, hbs, hκ⟩ := h
  subst hQ
  intro H locs ls hR1 hS hl
  refine W.widen hc hs ?_
  exact W.vret hx hb hrt (fun t ht hW => ⟨⟨_, _, _, _, _, _, rfl, hpost, by rw [ht]; exact hR1⟩, hS.F ht⟩) (fun q hq => hS.2.2 q hq) d hlk
/-- behind a call -/
theorem mAfter {p : Program} {l : Launch} {e : Env} {R0 : Room} {s : State} {m : MethodId} {args : Array Value} {below : List Frame} {meth : Method} {c : Code} {G : va_G} {Y : Nat → ClassId} {base mc' ms' pc' : Nat} {H : Heap} {locs : List Loc} {ls : Array Slot} {stk : List Value} {a : Array Value} (hp : pc + 3 = pc') (hS : va_S (fun q => base ≤ q) s.heap H locs) (hl : lv_has ls c.maxLocals lv)
    (hr : va_Run p l e R0 s m args below meth c H locs kc ks mc' ms' (F0 m pc ls stk) st (mQ G Y base post a) (fun q => base ≤ q))
    (kk : ∀ (v : Option Value) (n' : Nat) (sh' : mSh) (P' : mPt) (D' : mDt) (E' : mEt), post v n' sh' P' D' E' → mV ((p, l, e, R0, s, m, args, below, meth, c), (G, Y, base)) Q (kc + mc') (ks + ms') n' sh' P' D' E' lv (v.toList ++ st) pc') : W p l e R0 s m args below meth c H locs kc ks Q (F0 m pc ls stk) := by
  subst hp
  intro T hT X
  obtain ⟨v, st₀, t, T', L, h0, X', hL, e1, e2, ⟨⟨v', n', sh', P', D', E', hv, hpo, hR'⟩, hz, hk⟩, stp⟩ := hr T hT X
  cases hv
  rw [h0] at hz hk
  have hS' : va_S (fun q => base ≤ q) s.heap T'.heap (locs ++ L) := ⟨Nat.le_trans hS.1 (by rw [e1]; exact hz), fun q h1 h2 => by rw [e1, hk q (Nat.lt_of_lt_of_le h1 hS.1) h2]; exact hS.2.1 q h1 h2, fun q hq => by
      rcases List.mem_append.mp hq with h | h
      · exact hS.2.2 q h
      · exact hL q h⟩
  obtain ⟨t2, a1, b1⟩ := kk v n' sh' P' D' E' hpo T'.heap (locs ++ L) ls (by rw [e1]; exact hR') hS' hl T' rfl X'
  exact ⟨t2, stp t2 a1, b1⟩
theorem mPreOf {G : va_G} {Y : Nat → ClassId} {base : Nat} {s : State} {H : Heap} {locs : List Loc} {As : List Value} (hK : mKx G Y s) (hbs : base ≤ s.heap.size) (hS : va_S (fun q => base ≤ q) s.heap H locs) (hR1 : mR G Y base n sh P D E H) : ∀ U : State, U.heap = H → s.WarmedH U.vm → va_Pc As (mPre G Y base n sh P D E) As.toArray U := fun U hU hW => ⟨rfl, mKx_warm hW hK, by rw [← hR1.1]; exact Nat.le_trans hbs hS.1, by rw [hU]; exact hR1⟩

theorem V_callV (h : mOk Γ κ own cc nL ret R) (pc' : Nat) {y : MethodName} {cc2 : ByteArray} {nL2 : Nat} {ret2 : Option FieldType} {rm : Room} {idx : Nat} {As stk : List Value} {ci b N : Nat} {T : u_T} (hM : mMet κ y cc2 nL2 ret2 rm (.ref b :: As) n sh P D E post) (hC : vwCl[ci]? = some (y.cls, T, N)) (hs : sh b = some (.inl ci)) (w1 : Cond.methodLink own idx y ∈ mW) (w2 : Cond.instanceMethod y ∈ mW) (w3 : Cond.selects y.cls y y ∈ mW) (w4 : Cond.initialized y.cls ∈ mW) (w5 : Cond.code y cc2 nL2 ret2 ∈ mW) (hd : y.cls ≠ "java/lang/invoke/MethodHandle" ∧ y.cls ≠ "java/lang/invoke/VarHandle" ∧ (parseMethodDescriptor y.desc).map (fun d => d.parameters.length) = some As.length) (hR : rm.frames + 1 ≤ R.frames ∧ 8 + (nL2 + 11) + rm.locals ≤ R.locals) (hcat : (st.map fun v => v.category).sum ≤ 8) (hp : pc + 3 = pc') (hstk : stk = As.reverse ++ .ref b :: st) (d : decode cc pc = .ok (.invokevirtual idx, 3)) (hroom : kc + rm.cells ≤ R.cells ∧ ks + rm.slots ≤ R.slots) (kk : ∀ (v : Option Value) (n' : Nat) (sh' : mSh) (P' : mPt) (D' : mDt) (E' : mEt), post v n' sh' P' D' E' → mV Γ Q (kc + rm.cells) (ks + rm.slots) n' sh' P' D' E' lv (v.toList ++ st) pc') : mV Γ Q kc ks n sh P D E lv stk pc := by
  obtain ⟨⟨p, l, e, R0, s, m, args, below, meth, c⟩, G, Y, base⟩ := Γ
  obtain ⟨hx, hb, hml, hown, hts, hK, hlk, hrt, hR, hbs, hκ⟩ := h
  subst hκ
  subst hR
  intro H locs ls hR1 hS hl
  refine mAfter (a := (Value.ref b :: As).toArray) hp hS hl ?_ kk
  exact va_runV (As := As) (rest := st) (nL := nL) (n := As.length) (Ts := mW) ⟨hx, hb, hml, hown, hts⟩ hM ⟨callB_of As.length hts (mGood w5) rfl rfl rfl (hts _ w4) (hts _ w1) hd hR, hts _ w2, hts _ w3⟩ ⟨mBlind, va_recv hK.1 (mR_one hR1 hs) (ci := ci) (q0 := 0) hC rfl, mPreOf hK hbs hS hR1⟩ rfl rfl (by rw [← hml]; exact hl.1) hstk (lv_room hcat) d hroom
theorem V_callS (h : mOk Γ κ own cc nL ret R) (pc' : Nat) {y : MethodName} {cc2 : ByteArray} {nL2 : Nat} {ret2 : Option FieldType} {rm : Room} {idx : Nat} {As stk : List Value} (hM : mMet κ y cc2 nL2 ret2 rm As n sh P D E post) (w1 : Cond.methodLink own idx y ∈ mW) (w2 : Cond.static y ∈ mW) (w4 : Cond.initialized y.cls ∈ mW) (w5 : Cond.code y cc2 nL2 ret2 ∈ mW) (hd : y.cls ≠ "java/lang/invoke/MethodHandle" ∧ y.cls ≠ "java/lang/invoke/VarHandle" ∧ (parseMethodDescriptor y.desc).map (fun d => d.parameters.length) = some As.length) (hR : rm.frames + 1 ≤ R.frames ∧ 8 + (nL2 + 11) + rm.locals ≤ R.locals) (hcat : (st.map fun v => v.category).sum ≤ 8) (hp : pc + 3 = pc') (hstk : stk = As.reverse ++ st) (d : decode cc pc = .ok (.invokestatic idx, 3)) (hroom : kc + rm.cells ≤ R.cells ∧ ks + rm.slots ≤ R.slots) (kk : ∀ (v : Option Value) (n' : Nat) (sh' : mSh) (P' : mPt) (D' : mDt) (E' : mEt), post v n' sh' P' D' E' → mV Γ Q (kc + rm.cells) (ks + rm.slots) n' sh' P' D' E' lv (v.toList ++ st) pc') : mV Γ Q kc ks n sh P D E lv stk pc := by
  obtain ⟨⟨p, l, e, R0, s, m, args, below, meth, c⟩, G, Y, base⟩ := Γ
  obtain ⟨hx, hb, hml, hown, hts, hK, hlk, hrt, hR, hbs, hκ⟩ := h
  subst hκ
  subst hR
  intro H locs ls hR1 hS hl
  refine mAfter (a := As.toArray) hp hS hl ?_ kk
  exact va_runS (As := As) (rest := st) (nL := nL) (n := As.length) (Ts := mW) ⟨hx, hb, hml, hown, hts⟩ hM ⟨callB_of As.length hts (mGood w5) rfl rfl rfl (hts _ w4) (hts _ w1) hd hR, hts _ w2⟩ ⟨mBlind, mPreOf hK hbs hS hR1⟩ rfl rfl (by rw [← hml]; exact hl.1) hstk (lv_room hcat) d hroom
theorem V_callI (h : mOk Γ κ own cc nL ret R) (pc' : Nat) {y : MethodName} {cc2 : ByteArray} {nL2 : Nat} {ret2 : Option FieldType} {rm : Room} {idx : Nat} {As stk : List Value} {b : Nat} (hM : mMet κ y cc2 nL2 none rm (.ref b :: As) n sh P D E post) (hin : y.name = "<init>") (w1 : Cond.methodLink own idx y ∈ mW) (w2 : Cond.instanceMethod y ∈ mW) (w4 : Cond.initialized y.cls ∈ mW) (w5 : Cond.code y cc2 nL2 none ∈ mW) (hd : y.cls ≠ "java/lang/invoke/MethodHandle" ∧ y.cls ≠ "java/lang/invoke/VarHandle" ∧ (parseMethodDescriptor y.desc).map (fun d => d.parameters.length) = some As.length) (hR : rm.frames + 1 ≤ R.frames ∧ 8 + (nL2 + 11) + rm.locals ≤ R.locals) (hcat : (st.map fun v => v.category).sum ≤ 8) (hp : pc + 3 = pc') (hstk : stk = As.reverse ++ .ref b :: st) (d : decode cc pc = .ok (.invokespecial idx, 3)) (hroom : kc + rm.cells ≤ R.cells ∧ ks + rm.slots ≤ R.slots) (kk : ∀ (v : Option Value) (n' : Nat) (sh' : mSh) (P' : mPt) (D' : mDt) (E' : mEt), post v n' sh' P' D' E' → mV Γ Q (kc + rm.cells) (ks + rm.slots) n' sh' P' D' E' lv (v.toList ++ st) pc') : mV Γ Q kc ks n sh P D E lv stk pc := by
  obtain ⟨⟨p, l, e, R0, s, m, args, below, meth, c⟩, G, Y, base⟩ := Γ
  obtain ⟨hx, hb, hml, hown, hts, hK, hlk, hrt, hR, hbs, hκ⟩ := h
  subst hκ
  subst hR
  intro H locs ls hR1 hS hl
  refine mAfter (a := (Value.ref b :: As).toArray) hp hS hl ?_ kk
  exact va_runI (As := As) (rest := st) (nL := nL) (n := As.length) (Ts := mW) ⟨hx, hb, hml, hown, hts⟩ hM ⟨callB_of As.length hts (mGood w5) rfl rfl rfl (hts _ w4) (hts _ w1) hd hR, hin, hts _ w2⟩ ⟨mBlind, mPreOf hK hbs hS hR1⟩ rfl rfl (by rw [← hml]; exact hl.1) hstk (lv_room hcat) d hroom
theorem V_callIN (h : mOk Γ κ own cc nL ret R) (pc' : Nat) {y : MethodName} {cc2 : ByteArray} {nL2 : Nat} {ret2 : Option FieldType} {rm : Room} {idx : Nat} {As stk : List Value} {b : Nat} {host : String} (hM : mMet κ y cc2 nL2 none rm (.ref b :: As) n sh P D E post) (hin : y.name = "<init>") (w1 : Cond.methodLinkNest own idx y host ∈ mNest) (w2 : Cond.instanceMethod y ∈ mW) (w4 : Cond.initialized y.cls ∈ mW) (w5 : Cond.code y cc2 nL2 none ∈ mW) (hd : y.cls ≠ "java/lang/invoke/MethodHandle" ∧ y.cls ≠ "java/lang/invoke/VarHandle" ∧ (parseMethodDescriptor y.desc).map (fun d => d.parameters.length) = some As.length) (hR : rm.frames + 1 ≤ R.frames ∧ 8 + (nL2 + 11) + rm.locals ≤ R.locals) (hcat : (st.map fun v => v.category).sum ≤ 8) (hp : pc + 3 = pc') (hstk : stk = As.reverse ++ .ref b :: st) (d : decode cc pc = .ok (.invokespecial idx, 3)) (hroom : kc + rm.cells ≤ R.cells ∧ ks + rm.slots ≤ R.slots) (kk : ∀ (v : Option Value) (n' : Nat) (sh' : mSh) (P' : mPt) (D' : mDt) (E' : mEt), post v n' sh' P' D' E' → mV Γ Q (kc + rm.cells) (ks + rm.slots) n' sh' P' D' E' lv (v.toList ++ st) pc') : mV Γ Q kc ks n sh P D E lv stk pc := by
  obtain ⟨⟨p, l, e, R0, s, m, args, below, meth, c⟩, G, Y, base⟩ := Γ
  obtain ⟨hx, hb, hml, hown, hts, hK, hlk, hrt, hR, hbs, hκ⟩ := h
  subst hκ
  subst hR
  intro H locs ls hR1 hS hl
  refine mAfter (a := (Value.ref b :: As).toArray) hp hS hl ?_ kk
  exact va_runIN (As := As) (rest := st) (nL := nL) (n := As.length) (Ts := mW) ⟨hx, hb, hml, hown, hts⟩ hM ⟨va_cnB As.length hts (mGood w5) rfl rfl rfl (hK.2.1 _ w1) (hts _ w4) hd hR, hin, hts _ w2⟩ ⟨mBlind, mPreOf hK hbs hS hR1⟩ rfl rfl (by rw [← hml]; exact hl.1) hstk (lv_room hcat) d hroom
theorem V_mmax (h : mOk Γ κ own cc nL ret R) (pc' : Nat) {idx : Nat} {x y : Int32} (w1 : Cond.methodLink own idx Lib.Math.max.name ∈ mW) (hf : 1 ≤ R.frames) (hlo : (st.map fun v => v.category).sum + 13 ≤ R.locals) (hc : kc ≤ R.cells) (hs : ks ≤ R.slots) (d : decode cc pc = .ok (.invokestatic idx, 3)) (hp : pc + 3 = pc') (kk : mV Γ Q kc ks n sh P D E lv (.int (imax x y) :: st) pc') : mV Γ Q kc ks n sh P D E lv (.int y :: .int x :: st) pc := by
  obtain ⟨⟨p, l, e, R0, s, m, args, below, meth, c⟩, G, Y, base⟩ := Γ
  obtain ⟨hx, hb, hml, hown, hts, hK, hlk, hrt, hR, hbs, hκ⟩ := h
  subst hp
  subst hR
  intro H locs ls hR1 hS hl
  exact va_mmax hx hb hl.1.symm hown (hts _ w1) (hts _ qT_Math_max) (hts _ qZ_Math) (hts _ qC_Math_max) hf hlo hc hs d (kk H locs ls hR1 hS hl)
theorem V_mmin (h : mOk Γ κ own cc nL ret R) (pc' : Nat) {idx : Nat} {x y : Int32} (w1 : Cond.methodLink own idx Lib.Math.min.name ∈ mW) (hf : 1 ≤ R.frames) (hlo : (st.map fun v => v.category).sum + 13 ≤ R.locals) (hc : kc ≤ R.cells) (hs : ks ≤ R.slots) (d : decode cc pc = .ok (.invokestatic idx, 3)) (hp : pc + 3 = pc') (kk : mV Γ Q kc ks n sh P D E lv (.int (imin x y) :: st) pc') : mV Γ Q kc ks n sh P D E lv (.int y :: .int x :: st) pc := by
  obtain ⟨⟨p, l, e, R0, s, m, args, below, meth, c⟩, G, Y, base⟩ := Γ
  obtain ⟨hx, hb, hml, hown, hts, hK, hlk, hrt, hR, hbs, hκ⟩ := h
  subst hp
  subst hR
  intro H locs ls hR1 hS hl
  exact va_mmin hx hb hl.1.symm hown (hts _ w1) (hts _ qT_Math_min) (hts _ qZ_Math) (hts _ qC_Math_min) hf hlo hc hs d (kk H locs ls hR1 hS hl)
end MC
/-- a contract of a method that makes nothing and writes ints alone -/
def mFn (κ : mKp) (y : MethodName) (cc : ByteArray) (nL : Nat) (ret : Option FieldType) (fr lo : Nat) (As : List Value) (n : Nat) (sh : mSh) (P : mPt) (D : mDt) (E : mEt) (post : Option Value → mDt → Prop) : Prop := mMet κ y cc nL ret { frames := fr, cells := 0, slots := 0, locals := lo } As n sh P D E (fun v n' sh' P' D' E' => n' = n ∧ sh' = sh ∧ P' = P ∧ E' = E ∧ post v D')
def mFnI (κ : mKp) (y : MethodName) (cc : ByteArray) (nL : Nat) (ret : Option FieldType) (fr lo : Nat) (As : List Value) (n : Nat) (sh : mSh) (P : mPt) (D : mDt) (E : mEt) (post : Int32 → mDt → Prop) : Prop := mFn κ y cc nL ret fr lo As n sh P D E (fun v D' => ∃ r : Int32, v = some (.int r) ∧ post r D')
def mFnR (κ : mKp) (y : MethodName) (cc : ByteArray) (nL : Nat) (ret : Option FieldType) (fr lo : Nat) (As : List Value) (n : Nat) (sh : mSh) (P : mPt) (D : mDt) (E : mEt) (post : Nat → mDt → Prop) : Prop := mFn κ y cc nL ret fr lo As n sh P D E (fun v D' => ∃ r : Nat, v = some (.ref r) ∧ post r D')
def mFnV (κ : mKp) (y : MethodName) (cc : ByteArray) (nL : Nat) (fr lo : Nat) (As : List Value) (n : Nat) (sh : mSh) (P : mPt) (D : mDt) (E : mEt) (post : mDt → Prop) : Prop := mFn κ y cc nL none fr lo As n sh P D E (fun v D' => v = none ∧ post D')
section MF
variable {Γ : mC} {κ : mKp} {Q : State → Prop} {kc ks n : Nat} {sh : mSh} {P : mPt} {D : mDt} {E : mEt} {lv : List (Nat × Value)} {st : List Value} {pc : Nat} {own : String} {cc : ByteArray} {nL : Nat} {ret : Option FieldType} {R : Room}

theorem CVI (h : mOk Γ κ own cc nL ret R) (pc' : Nat) {y : MethodName} {cc2 : ByteArray} {nL2 : Nat} {ret2 : Option FieldType} {fr lo : Nat} {idx : Nat} {As stk : List Value} {ci b N : Nat} {T : u_T} {post : Int32 → mDt → Prop} (hM : mFnI κ y cc2 nL2 ret2 fr lo (.ref b :: As) n sh P D E post) (hC : vwCl[ci]? = some (y.cls, T, N)) (hs : sh b = some (.inl ci)) (w1 : Cond.methodLink own idx y ∈ mW) (w2 : Cond.instanceMethod y ∈ mW) (w3 : Cond.selects y.cls y y ∈ mW) (w4 : Cond.initialized y.cls ∈ mW) (w5 : Cond.code y cc2 nL2 ret2 ∈ mW) (hd : y.cls ≠ "java/lang/invoke/MethodHandle" ∧ y.cls ≠ "java/lang/invoke/VarHandle" ∧ (parseMethodDescriptor y.desc).map (fun d => d.parameters.length) = some As.length) (hR : fr + 1 ≤ R.frames ∧ 8 + (nL2 + 11) + lo ≤ R.locals) (hcat : (st.map fun v => v.category).sum ≤ 8) (hp : pc + 3 = pc') (hstk : stk = As.reverse ++ .ref b :: st) (d : decode cc pc = .ok (.invokevirtual idx, 3)) (hkc : kc ≤ R.cells) (hks : ks ≤ R.slots) (kk : ∀ (r : Int32) (D' : mDt), post r D' → mV Γ Q kc ks n sh P D' E lv (.int r :: st) pc') : mV Γ Q kc ks n sh P D E lv stk pc := by
  refine V_callV h pc' (rm := { frames := fr, cells := 0, slots := 0, locals := lo }) hM hC hs w1 w2 w3 w4 w5 hd hR hcat hp hstk d ⟨hkc, hks⟩ ?_
  · intro v n' sh' P' D' E' hq
    obtain ⟨rfl, rfl, rfl, rfl, r, rfl, hq⟩ := hq
    exact kk r D' hq
theorem CVR (h : mOk Γ κ own cc nL ret R) (pc' : Nat) {y : MethodName} {cc2 : ByteArray} {nL2 : Nat} {ret2 : Option FieldType} {fr lo : Nat} {idx : Nat} {As stk : List Value} {ci b N : Nat} {T : u_T} {post : Nat → mDt → Prop} (hM : mFnR κ y cc2 nL2 ret2 fr lo (.ref b :: As) n sh P D E post) (hC : vwCl[ci]? = some (y.cls, T, N)) (hs : sh b = some (.inl ci)) (w1 : Cond.methodLink own idx y ∈ mW) (w2 : Cond.instanceMethod y ∈ mW) (w3 : Cond.selects y.cls y y ∈ mW) (w4 : Cond.initialized y.cls ∈ mW) (w5 : Cond.code y cc2 nL2 ret2 ∈ mW) (hd : y.cls ≠ "java/lang/invoke/MethodHandle" ∧ y.cls ≠ "java/lang/invoke/VarHandle" ∧ (parseMethodDescriptor y.desc).map (fun d => d.parameters.length) = some As.length) (hR : fr + 1 ≤ R.frames ∧ 8 + (nL2 + 11) + lo ≤ R.locals) (hcat : (st.map fun v => v.category).sum ≤ 8) (hp : pc + 3 = pc') (hstk : stk = As.reverse ++ .ref b :: st) (d : decode cc pc = .ok (.invokevirtual idx, 3)) (hkc : kc ≤ R.cells) (hks : ks ≤ R.slots) (kk : ∀ (r : Nat) (D' : mDt), post r D' → mV Γ Q kc ks n sh P D' E lv (.ref r :: st) pc') : mV Γ Q kc ks n sh P D E lv stk pc := by
  refine V_callV h pc' (rm := { frames := fr, cells := 0, slots := 0, locals := lo }) hM hC hs w1 w2 w3 w4 w5 hd hR hcat hp hstk d ⟨hkc, hks⟩ ?_
  · intro v n' sh' P' D' E' hq
    obtain ⟨rfl, rfl, rfl, rfl, r, rfl, hq⟩ := hq
    exact kk r D' hq
theorem CVV (h : mOk Γ κ own cc nL ret R) (pc' : Nat) {y : MethodName} {cc2 : ByteArray} {nL2 : Nat} {fr lo : Nat} {idx : Nat} {As stk : List Value} {ci b N : Nat} {T : u_T} {post : mDt → Prop} (hM : mFnV κ y cc2 nL2 fr lo (.ref b :: As) n sh P D E post) (hC : vwCl[ci]? = some (y.cls, T, N)) (hs : sh b = some (.inl ci)) (w1 : Cond.methodLink own idx y ∈ mW) (w2 : Cond.instanceMethod y ∈ mW) (w3 : Cond.selects y.cls y y ∈ mW) (w4 : Cond.initialized y.cls ∈ mW) (w5 : Cond.code y cc2 nL2 none ∈ mW) (hd : y.cls ≠ "java/lang/invoke/MethodHandle" ∧ y.cls ≠ "java/lang/invoke/VarHandle" ∧ (parseMethodDescriptor y.desc).map (fun d => d.parameters.length) = some As.length) (hR : fr + 1 ≤ R.frames ∧ 8 + (nL2 + 11) + lo ≤ R.locals) (hcat : (st.map fun v => v.category).sum ≤ 8) (hp : pc + 3 = pc') (hstk : stk = As.reverse ++ .ref b :: st) (d : decode cc pc = .ok (.invokevirtual idx, 3)) (hkc : kc ≤ R.cells) (hks : ks ≤ R.slots) (kk : ∀ (D' : mDt), post D' → mV Γ Q kc ks n sh P D' E lv st pc') : mV Γ Q kc ks n sh P D E lv stk pc := by
  refine V_callV h pc' (rm := { frames := fr, cells := 0, slots := 0, locals := lo }) hM hC hs w1 w2 w3 w4 w5 hd hR hcat hp hstk d ⟨hkc, hks⟩ ?_
  · intro v n' sh' P' D' E' hq
    obtain ⟨rfl, rfl, rfl, rfl, rfl, hq⟩ := hq
    exact kk D' hq
theorem CSI (h : mOk Γ κ own cc nL ret R) (pc' : Nat) {y : MethodName} {cc2 : ByteArray} {nL2 : Nat} {ret2 : Option FieldType} {fr lo : Nat} {idx : Nat} {As stk : List Value} {post : Int32 → mDt → Prop} (hM : mFnI κ y cc2 nL2 ret2 fr lo As n sh P D E post) (w1 : Cond.methodLink own idx y ∈ mW) (w2 : Cond.static y ∈ mW) (w4 : Cond.initialized y.cls ∈ mW) (w5 : Cond.code y cc2 nL2 ret2 ∈ mW) (hd : y.cls ≠ "java/lang/invoke/MethodHandle" ∧ y.cls ≠ "java/lang/invoke/VarHandle" ∧ (parseMethodDescriptor y.desc).map (fun d => d.parameters.length) = some As.length) (hR : fr + 1 ≤ R.frames ∧ 8 + (nL2 + 11) + lo ≤ R.locals) (hcat : (st.map fun v => v.category).sum ≤ 8) (hp : pc + 3 = pc') (hstk : stk = As.reverse ++ st) (d : decode cc pc = .ok (.invokestatic idx, 3)) (hkc : kc ≤ R.cells) (hks : ks ≤ R.slots) (kk : ∀ (r : Int32) (D' : mDt), post r D' → mV Γ Q kc ks n sh P D' E lv (.int r :: st) pc') : mV Γ Q kc ks n sh P D E lv stk pc := by
  refine V_callS h pc' (rm := { frames := fr, cells := 0, slots := 0, locals := lo }) hM w1 w2 w4 w5 hd hR hcat hp hstk d ⟨hkc, hks⟩ ?_
  · intro v n' sh' P' D' E' hq
    obtain ⟨rfl, rfl, rfl, rfl, r, rfl, hq⟩ := hq
    exact kk r D' hq
theorem CSR (h : mOk Γ κ own cc nL ret R) (pc' : Nat) {y : MethodName} {cc2 : ByteArray} {nL2 : Nat} {ret2 : Option FieldType} {fr lo : Nat} {idx : Nat} {As stk : List Value} {post : Nat → mDt → Prop} (hM : mFnR κ y cc2 nL2 ret2 fr lo As n sh P D E post) (w1 : Cond.methodLink own idx y ∈ mW) (w2 : Cond.static y ∈ mW) (w4 : Cond.initialized y.cls ∈ mW) (w5 : Cond.code y cc2 nL2 ret2 ∈ mW) (hd : y.cls ≠ "java/lang/invoke/MethodHandle" ∧ y.cls ≠ "java/lang/invoke/VarHandle" ∧ (parseMethodDescriptor y.desc).map (fun d => d.parameters.length) = some As.length) (hR : fr + 1 ≤ R.frames ∧ 8 + (nL2 + 11) + lo ≤ R.locals) (hcat : (st.map fun v => v.category).sum ≤ 8) (hp : pc + 3 = pc') (hstk : stk = As.reverse ++ st) (d : decode cc pc = .ok (.invokestatic idx, 3)) (hkc : kc ≤ R.cells) (hks : ks ≤ R.slots) (kk : ∀ (r : Nat) (D' : mDt), post r D' → mV Γ Q kc ks n sh P D' E lv (.ref r :: st) pc') : mV Γ Q kc ks n sh P D E lv stk pc := by
  refine V_callS h pc' (rm := { frames := fr, cells := 0, slots := 0, locals := lo }) hM w1 w2 w4 w5 hd hR hcat hp hstk d ⟨hkc, hks⟩ ?_
  · intro v n' sh' P' D' E' hq
    obtain ⟨rfl, rfl, rfl, rfl, r, rfl, hq⟩ := hq
    exact kk r D' hq
theorem CSV (h : mOk Γ κ own cc nL ret R) (pc' : Nat) {y : MethodName} {cc2 : ByteArray} {nL2 : Nat} {fr lo : Nat} {idx : Nat} {As stk : List Value} {post : mDt → Prop} (hM : mFnV κ y cc2 nL2 fr lo As n sh P D E post) (w1 : Cond.methodLink own idx y ∈ mW) (w2 : Cond.static y ∈ mW) (w4 : Cond.initialized y.cls ∈ mW) (w5 : Cond.code y cc2 nL2 none ∈ mW) (hd : y.cls ≠ "java/lang/invoke/MethodHandle" ∧ y.cls ≠ "java/lang/invoke/VarHandle" ∧ (parseMethodDescriptor y.desc).map (fun d => d.parameters.length) = some As.length) (hR : fr + 1 ≤ R.frames ∧ 8 + (nL2 + 11) + lo ≤ R.locals) (hcat : (st.map fun v => v.category).sum ≤ 8) (hp : pc + 3 = pc') (hstk : stk = As.reverse ++ st) (d : decode cc pc = .ok (.invokestatic idx, 3)) (hkc : kc ≤ R.cells) (hks : ks ≤ R.slots) (kk : ∀ (D' : mDt), post D' → mV Γ Q kc ks n sh P D' E lv st pc') : mV Γ Q kc ks n sh P D E lv stk pc := by
  refine V_callS h pc' (rm := { frames := fr, cells := 0, slots := 0, locals := lo }) hM w1 w2 w4 w5 hd hR hcat hp hstk d ⟨hkc, hks⟩ ?_
  · intro v n' sh' P' D' E' hq
    obtain ⟨rfl, rfl, rfl, rfl, rfl, hq⟩ := hq
    exact kk D' hq
end MF
end
section
section ML
variable {Γ : mC} {κ : mKp} {Q : State → Prop} {kc ks n : Nat} {sh : mSh} {P : mPt} {D : mDt} {E : mEt} {lv : List (Nat × Value)} {st : List Value} {pc : Nat} {cc : ByteArray} {nL : Nat} {ret : Option FieldType} {R : Room}
theorem g_X5_10 (h : mOk Γ κ RX5 cc nL ret R) (pc' : Nat) {a b : Nat} (hs : sh a = some (.inl 5)) (hPa : P a 0 = some b) (d : decode cc pc = .ok (.getfield 10, 3)) (hp : pc + 3 = pc') (kk : mV Γ Q kc ks n sh P D E lv (.ref b :: st) pc') : mV Γ Q kc ks n sh P D E lv (.ref a :: st) pc := V_getr (k := 0) (T := TX5) h pc' qU_X5 rfl rfl (by decide) qF_X5_10 rfl hs hPa d hp kk
theorem p_X5_10 (h : mOk Γ κ RX5 cc nL ret R) (pc' : Nat) {a b : Nat} (hin2 : mInit Γ) (hs : sh a = some (.inl 5)) (d : decode cc pc = .ok (.putfield 10, 3)) (hp : pc + 3 = pc') (kk : mV Γ Q kc ks n sh (updP P a 0 (some b)) D E lv st pc') : mV Γ Q kc ks n sh P D E lv (.ref b :: .ref a :: st) pc := V_putFr (k := 0) (T := TX5) (host := "") h pc' tyX5 tyX5_ok nmX5 qU_X5 rfl rfl (by decide) qF_X5_10 rfl rfl hin2 rfl (tyX5_ok 0 (by decide)) rfl rfl hs d hp kk
theorem g_X5_16 (h : mOk Γ κ RX5 cc nL ret R) (pc' : Nat) {a b : Nat} (hs : sh a = some (.inl 5)) (hPa : P a 1 = some b) (d : decode cc pc = .ok (.getfield 16, 3)) (hp : pc + 3 = pc') (kk : mV Γ Q kc ks n sh P D E lv (.ref b :: st) pc') : mV Γ Q kc ks n sh P D E lv (.ref a :: st) pc := V_getr (k := 1) (T := TX5) h pc' qU_X5 rfl rfl (by decide) qF_X5_16 rfl hs hPa d hp kk
theorem p_X5_16 (h : mOk Γ κ RX5 cc nL ret R) (pc' : Nat) {a b : Nat} (hin2 : mInit Γ) (hs : sh a = some (.inl 5)) (d : decode cc pc = .ok (.putfield 16, 3)) (hp : pc + 3 = pc') (kk : mV Γ Q kc ks n sh (updP P a 1 (some b)) D E lv st pc') : mV Γ Q kc ks n sh P D E lv (.ref b :: .ref a :: st) pc := V_putFr (k := 1) (T := TX5) (host := "") h pc' tyX5 tyX5_ok nmX5 qU_X5 rfl rfl (by decide) qF_X5_16 rfl rfl hin2 rfl (tyX5_ok 1 (by decide)) rfl rfl hs d hp kk
theorem g_X5_19 (h : mOk Γ κ RX5 cc nL ret R) (pc' : Nat) {a b : Nat} (hs : sh a = some (.inl 5)) (hPa : P a 2 = some b) (d : decode cc pc = .ok (.getfield 19, 3)) (hp : pc + 3 = pc') (kk : mV Γ Q kc ks n sh P D E lv (.ref b :: st) pc') : mV Γ Q kc ks n sh P D E lv (.ref a :: st) pc := V_getr (k := 2) (T := TX5) h pc' qU_X5 rfl rfl (by decide) qF_X5_19 rfl hs hPa d hp kk
theorem p_X5_19 (h : mOk Γ κ RX5 cc nL ret R) (pc' : Nat) {a b : Nat} (hin2 : mInit Γ) (hs : sh a = some (.inl 5)) (d : decode cc pc = .ok (.putfield 19, 3)) (hp : pc + 3 = pc') (kk : mV Γ Q kc ks n sh (updP P a 2 (some b)) D E lv st pc') : mV Γ Q kc ks n sh P D E lv (.ref b :: .ref a :: st) pc := V_putFr (k := 2) (T := TX5) (host := "") h pc' tyX5 tyX5_ok nmX5 qU_X5 rfl rfl (by decide) qF_X5_19 rfl rfl hin2 rfl (tyX5_ok 2 (by decide)) rfl rfl hs d hp kk
theorem gN_X5_30 (h : mOk Γ κ RX5 cc nL ret R) (pc' : Nat) {a b : Nat} (hs : sh a = some (.inl 2)) (hPa : P a 1 = some b) (d : decode cc pc = .ok (.getfield 30, 3)) (hp : pc + 3 = pc') (kk : mV Γ Q kc ks n sh P D E lv (.ref b :: st) pc') : mV Γ Q kc ks n sh P D E lv (.ref a :: st) pc := V_getrN (k := 1) (T := TX2) h pc' qU_X2 rfl rfl (by decide) (List.mem_of_getElem? (i := 33) rfl) rfl hs hPa d hp kk
theorem gN_X5_63 (h : mOk Γ κ RX5 cc nL ret R) (pc' : Nat) {a : Nat} (hs : sh a = some (.inl 3)) (d : decode cc pc = .ok (.getfield 63, 3)) (hp : pc + 3 = pc') (kk : mV Γ Q kc ks n sh P D E lv (.int (D a 3) :: st) pc') : mV Γ Q kc ks n sh P D E lv (.ref a :: st) pc := V_getN (k := 3) (T := TX3) h pc' qU_X3 rfl rfl (by decide) (List.mem_of_getElem? (i := 14) rfl) rfl hs d hp kk
theorem gN_X5_73 (h : mOk Γ κ RX5 cc nL ret R) (pc' : Nat) {a : Nat} (hs : sh a = some (.inl 3)) (d : decode cc pc = .ok (.getfield 73, 3)) (hp : pc + 3 = pc') (kk : mV Γ Q kc ks n sh P D E lv (.int (D a 2) :: st) pc') : mV Γ Q kc ks n sh P D E lv (.ref a :: st) pc := V_getN (k := 2) (T := TX3) h pc' qU_X3 rfl rfl (by decide) (List.mem_of_getElem? (i := 11) rfl) rfl hs d hp kk
theorem pN_X5_73 (h : mOk Γ κ RX5 cc nL ret R) (pc' : Nat) {a : Nat} {x : Int32} (hs : sh a = some (.inl 3)) (d : decode cc pc = .ok (.putfield 73, 3)) (hp : pc + 3 = pc') (kk : mV Γ Q kc ks n sh P (upd2 D a 2 x) E lv st pc') : mV Γ Q kc ks n sh P D E lv (.int x :: .ref a :: st) pc := V_putN (k := 2) (T := TX3) h pc' tyX3 tyX3_ok nmX3 qU_X3 rfl rfl (by decide) (List.mem_of_getElem? (i := 11) rfl) rfl rfl (tyX3_ok 2 (by decide)) rfl rfl hs d hp kk
theorem gN_X5_76 (h : mOk Γ κ RX5 cc nL ret R) (pc' : Nat) {a b : Nat} (hs : sh a = some (.inl 2)) (hPa : P a 2 = some b) (d : decode cc pc = .ok (.getfield 76, 3)) (hp : pc + 3 = pc') (kk : mV Γ Q kc ks n sh P D E lv (.ref b :: st) pc') : mV Γ Q kc ks n sh P D E lv (.ref a :: st) pc := V_getrN (k := 2) (T := TX2) h pc' qU_X2 rfl rfl (by decide) (List.mem_of_getElem? (i := 34) rfl) rfl hs hPa d hp kk
theorem gN_X5_97 (h : mOk Γ κ RX5 cc nL ret R) (pc' : Nat) {a b : Nat} (hs : sh a = some (.inl 2)) (hPa : P a 0 = some b) (d : decode cc pc = .ok (.getfield 97, 3)) (hp : pc + 3 = pc') (kk : mV Γ Q kc ks n sh P D E lv (.ref b :: st) pc') : mV Γ Q kc ks n sh P D E lv (.ref a :: st) pc := V_getrN (k := 0) (T := TX2) h pc' qU_X2 rfl rfl (by decide) (List.mem_of_getElem? (i := 32) rfl) rfl hs hPa d hp kk
theorem gN_X5_101 (h : mOk Γ κ RX5 cc nL ret R) (pc' : Nat) {a : Nat} (hs : sh a = some (.inl 0)) (d : decode cc pc = .ok (.getfield 101, 3)) (hp : pc + 3 = pc') (kk : mV Γ Q kc ks n sh P D E lv (.int (D a 1) :: st) pc') : mV Γ Q kc ks n sh P D E lv (.ref a :: st) pc := V_getN (k := 1) (T := TX0) h pc' qU_X0 rfl rfl (by decide) (List.mem_of_getElem? (i := 3) rfl) rfl hs d hp kk
theorem pN_X5_101 (h : mOk Γ κ RX5 cc nL ret R) (pc' : Nat) {a : Nat} {x : Int32} (hs : sh a = some (.inl 0)) (d : decode cc pc = .ok (.putfield 101, 3)) (hp : pc + 3 = pc') (kk : mV Γ Q kc ks n sh P (upd2 D a 1 x) E lv st pc') : mV Γ Q kc ks n sh P D E lv (.int x :: .ref a :: st) pc := V_putN (k := 1) (T := TX0) h pc' tyX0 tyX0_ok nmX0 qU_X0 rfl rfl (by decide) (List.mem_of_getElem? (i := 3) rfl) rfl rfl (tyX0_ok 1 (by decide)) rfl rfl hs d hp kk
theorem gN_X5_118 (h : mOk Γ κ RX5 cc nL ret R) (pc' : Nat) {a : Nat} (hs : sh a = some (.inl 0)) (d : decode cc pc = .ok (.getfield 118, 3)) (hp : pc + 3 = pc') (kk : mV Γ Q kc ks n sh P D E lv (.int (D a 3) :: st) pc') : mV Γ Q kc ks n sh P D E lv (.ref a :: st) pc := V_getN (k := 3) (T := TX0) h pc' qU_X0 rfl rfl (by decide) (List.mem_of_getElem? (i := 6) rfl) rfl hs d hp kk
theorem pN_X5_118 (h : mOk Γ κ RX5 cc nL ret R) (pc' : Nat) {a : Nat} {x : Int32} (hs : sh a = some (.inl 0)) (d : decode cc pc = .ok (.putfield 118, 3)) (hp : pc + 3 = pc') (kk : mV Γ Q kc ks n sh P (upd2 D a 3 x) E lv st pc') : mV Γ Q kc ks n sh P D E lv (.int x :: .ref a :: st) pc := V_putN (k := 3) (T := TX0) h pc' tyX0 tyX0_ok nmX0 qU_X0 rfl rfl (by decide) (List.mem_of_getElem? (i := 6) rfl) rfl rfl (tyX0_ok 3 (by decide)) rfl rfl hs d hp kk
theorem gN_X5_121 (h : mOk Γ κ RX5 cc nL ret R) (pc' : Nat) {a : Nat} (hs : sh a = some (.inl 3)) (d : decode cc pc = .ok (.getfield 121, 3)) (hp : pc + 3 = pc') (kk : mV Γ Q kc ks n sh P D E lv (.int (D a 9) :: st) pc') : mV Γ Q kc ks n sh P D E lv (.ref a :: st) pc := V_getN (k := 9) (T := TX3) h pc' qU_X3 rfl rfl (by decide) (List.mem_of_getElem? (i := 23) rfl) rfl hs d hp kk
theorem pN_X5_121 (h : mOk Γ κ RX5 cc nL ret R) (pc' : Nat) {a : Nat} {x : Int32} (hs : sh a = some (.inl 3)) (d : decode cc pc = .ok (.putfield 121, 3)) (hp : pc + 3 = pc') (kk : mV Γ Q kc ks n sh P (upd2 D a 9 x) E lv st pc') : mV Γ Q kc ks n sh P D E lv (.int x :: .ref a :: st) pc := V_putN (k := 9) (T := TX3) h pc' tyX3 tyX3_ok nmX3 qU_X3 rfl rfl (by decide) (List.mem_of_getElem? (i := 23) rfl) rfl rfl (tyX3_ok 9 (by decide)) rfl rfl hs d hp kk
theorem gN_X5_127 (h : mOk Γ κ RX5 cc nL ret R) (pc' : Nat) {a : Nat} (hs : sh a = some (.inl 3)) (d : decode cc pc = .ok (.getfield 127, 3)) (hp : pc + 3 = pc') (kk : mV Γ Q kc ks n sh P D E lv (.int (D a 4) :: st) pc') : mV Γ Q kc ks n sh P D E lv (.ref a :: st) pc := V_getN (k := 4) (T := TX3) h pc' qU_X3 rfl rfl (by decide) (List.mem_of_getElem? (i := 17) rfl) rfl hs d hp kk
theorem gN_X5_136 (h : mOk Γ κ RX5 cc nL ret R) (pc' : Nat) {a b : Nat} (hs : sh a = some (.inl 2)) (hPa : P a 3 = some b) (d : decode cc pc = .ok (.getfield 136, 3)) (hp : pc + 3 = pc') (kk : mV Γ Q kc ks n sh P D E lv (.ref b :: st) pc') : mV Γ Q kc ks n sh P D E lv (.ref a :: st) pc := V_getrN (k := 3) (T := TX2) h pc' qU_X2 rfl rfl (by decide) (List.mem_of_getElem? (i := 35) rfl) rfl hs hPa d hp kk
theorem gN_X5_139 (h : mOk Γ κ RX5 cc nL ret R) (pc' : Nat) {a : Nat} (hs : sh a = some (.inl 2)) (d : decode cc pc = .ok (.getfield 139, 3)) (hp : pc + 3 = pc') (kk : mV Γ Q kc ks n sh P D E lv (.int (D a 4) :: st) pc') : mV Γ Q kc ks n sh P D E lv (.ref a :: st) pc := V_getN (k := 4) (T := TX2) h pc' qU_X2 rfl rfl (by decide) (List.mem_of_getElem? (i := 36) rfl) rfl hs d hp kk
theorem gN_X5_221 (h : mOk Γ κ RX5 cc nL ret R) (pc' : Nat) {a : Nat} (hs : sh a = some (.inl 3)) (d : decode cc pc = .ok (.getfield 221, 3)) (hp : pc + 3 = pc') (kk : mV Γ Q kc ks n sh P D E lv (.int (D a 13) :: st) pc') : mV Γ Q kc ks n sh P D E lv (.ref a :: st) pc := V_getN (k := 13) (T := TX3) h pc' qU_X3 rfl rfl (by decide) (List.mem_of_getElem? (i := 28) rfl) rfl hs d hp kk
theorem gN_X5_227 (h : mOk Γ κ RX5 cc nL ret R) (pc' : Nat) {a : Nat} (hs : sh a = some (.inl 3)) (d : decode cc pc = .ok (.getfield 227, 3)) (hp : pc + 3 = pc') (kk : mV Γ Q kc ks n sh P D E lv (.int (D a 14) :: st) pc') : mV Γ Q kc ks n sh P D E lv (.ref a :: st) pc := V_getN (k := 14) (T := TX3) h pc' qU_X3 rfl rfl (by decide) (List.mem_of_getElem? (i := 30) rfl) rfl hs d hp kk
theorem g_X0_9 (h : mOk Γ κ RX0 cc nL ret R) (pc' : Nat) {a : Nat} (hs : sh a = some (.inl 0)) (d : decode cc pc = .ok (.getfield 9, 3)) (hp : pc + 3 = pc') (kk : mV Γ Q kc ks n sh P D E lv (.int (D a 0) :: st) pc') : mV Γ Q kc ks n sh P D E lv (.ref a :: st) pc := V_get (k := 0) (T := TX0) h pc' qU_X0 rfl rfl (by decide) qF_X0_9 rfl hs d hp kk
theorem p_X0_9 (h : mOk Γ κ RX0 cc nL ret R) (pc' : Nat) {a : Nat} {x : Int32} (hs : sh a = some (.inl 0)) (d : decode cc pc = .ok (.putfield 9, 3)) (hp : pc + 3 = pc') (kk : mV Γ Q kc ks n sh P (upd2 D a 0 x) E lv st pc') : mV Γ Q kc ks n sh P D E lv (.int x :: .ref a :: st) pc := V_put (k := 0) (T := TX0) (host := "") h pc' tyX0 tyX0_ok nmX0 qU_X0 rfl rfl (by decide) qF_X0_9 rfl rfl (tyX0_ok 0 (by decide)) rfl rfl hs d hp kk
theorem g_X0_15 (h : mOk Γ κ RX0 cc nL ret R) (pc' : Nat) {a : Nat} (hs : sh a = some (.inl 0)) (d : decode cc pc = .ok (.getfield 15, 3)) (hp : pc + 3 = pc') (kk : mV Γ Q kc ks n sh P D E lv (.int (D a 1) :: st) pc') : mV Γ Q kc ks n sh P D E lv (.ref a :: st) pc := V_get (k := 1) (T := TX0) h pc' qU_X0 rfl rfl (by decide) qF_X0_15 rfl hs d hp kk
theorem p_X0_15 (h : mOk Γ κ RX0 cc nL ret R) (pc' : Nat) {a : Nat} {x : Int32} (hs : sh a = some (.inl 0)) (d : decode cc pc = .ok (.putfield 15, 3)) (hp : pc + 3 = pc') (kk : mV Γ Q kc ks n sh P (upd2 D a 1 x) E lv st pc') : mV Γ Q kc ks n sh P D E lv (.int x :: .ref a :: st) pc := V_put (k := 1) (T := TX0) (host := "") h pc' tyX0 tyX0_ok nmX0 qU_X0 rfl rfl (by decide) qF_X0_15 rfl rfl (tyX0_ok 1 (by decide)) rfl rfl hs d hp kk
theorem g_X0_18 (h : mOk Γ κ RX0 cc nL ret R) (pc' : Nat) {a : Nat} (hs : sh a = some (.inl 0)) (d : decode cc pc = .ok (.getfield 18, 3)) (hp : pc + 3 = pc') (kk : mV Γ Q kc ks n sh P D E lv (.int (D a 2) :: st) pc') : mV Γ Q kc ks n sh P D E lv (.ref a :: st) pc := V_get (k := 2) (T := TX0) h pc' qU_X0 rfl rfl (by decide) qF_X0_18 rfl hs d hp kk
theorem p_X0_18 (h : mOk Γ κ RX0 cc nL ret R) (pc' : Nat) {a : Nat} {x : Int32} (hs : sh a = some (.inl 0)) (d : decode cc pc = .ok (.putfield 18, 3)) (hp : pc + 3 = pc') (kk : mV Γ Q kc ks n sh P (upd2 D a 2 x) E lv st pc') : mV Γ Q kc ks n sh P D E lv (.int x :: .ref a :: st) pc := V_put (k := 2) (T := TX0) (host := "") h pc' tyX0 tyX0_ok nmX0 qU_X0 rfl rfl (by decide) qF_X0_18 rfl rfl (tyX0_ok 2 (by decide)) rfl rfl hs d hp kk
theorem g_X0_21 (h : mOk Γ κ RX0 cc nL ret R) (pc' : Nat) {a : Nat} (hs : sh a = some (.inl 0)) (d : decode cc pc = .ok (.getfield 21, 3)) (hp : pc + 3 = pc') (kk : mV Γ Q kc ks n sh P D E lv (.int (D a 3) :: st) pc') : mV Γ Q kc ks n sh P D E lv (.ref a :: st) pc := V_get (k := 3) (T := TX0) h pc' qU_X0 rfl rfl (by decide) qF_X0_21 rfl hs d hp kk
theorem p_X0_21 (h : mOk Γ κ RX0 cc nL ret R) (pc' : Nat) {a : Nat} {x : Int32} (hs : sh a = some (.inl 0)) (d : decode cc pc = .ok (.putfield 21, 3)) (hp : pc + 3 = pc') (kk : mV Γ Q kc ks n sh P (upd2 D a 3 x) E lv st pc') : mV Γ Q kc ks n sh P D E lv (.int x :: .ref a :: st) pc := V_put (k := 3) (T := TX0) (host := "") h pc' tyX0 tyX0_ok nmX0 qU_X0 rfl rfl (by decide) qF_X0_21 rfl rfl (tyX0_ok 3 (by decide)) rfl rfl hs d hp kk
theorem g_X1_11 (h : mOk Γ κ RX1 cc nL ret R) (pc' : Nat) {a b : Nat} (hs : sh a = some (.inl 1)) (hPa : P a 0 = some b) (d : decode cc pc = .ok (.getfield 11, 3)) (hp : pc + 3 = pc') (kk : mV Γ Q kc ks n sh P D E lv (.ref b :: st) pc') : mV Γ Q kc ks n sh P D E lv (.ref a :: st) pc := V_getr (k := 0) (T := TX1) h pc' qU_X1 rfl rfl (by decide) qF_X1_11 rfl hs hPa d hp kk
theorem p_X1_11 (h : mOk Γ κ RX1 cc nL ret R) (pc' : Nat) {a b : Nat} (hin2 : mInit Γ) (hs : sh a = some (.inl 1)) (d : decode cc pc = .ok (.putfield 11, 3)) (hp : pc + 3 = pc') (kk : mV Γ Q kc ks n sh (updP P a 0 (some b)) D E lv st pc') : mV Γ Q kc ks n sh P D E lv (.ref b :: .ref a :: st) pc := V_putFr (k := 0) (T := TX1) (host := "") h pc' tyX1 tyX1_ok nmX1 qU_X1 rfl rfl (by decide) qF_X1_11 rfl rfl hin2 rfl (tyX1_ok 0 (by decide)) rfl rfl hs d hp kk
theorem g_X1_15 (h : mOk Γ κ RX1 cc nL ret R) (pc' : Nat) {a : Nat} (hs : sh a = some (.inl 1)) (d : decode cc pc = .ok (.getfield 15, 3)) (hp : pc + 3 = pc') (kk : mV Γ Q kc ks n sh P D E lv (.int (D a 1) :: st) pc') : mV Γ Q kc ks n sh P D E lv (.ref a :: st) pc := V_get (k := 1) (T := TX1) h pc' qU_X1 rfl rfl (by decide) qF_X1_15 rfl hs d hp kk
theorem p_X1_15 (h : mOk Γ κ RX1 cc nL ret R) (pc' : Nat) {a : Nat} {x : Int32} (hs : sh a = some (.inl 1)) (d : decode cc pc = .ok (.putfield 15, 3)) (hp : pc + 3 = pc') (kk : mV Γ Q kc ks n sh P (upd2 D a 1 x) E lv st pc') : mV Γ Q kc ks n sh P D E lv (.int x :: .ref a :: st) pc := V_put (k := 1) (T := TX1) (host := "") h pc' tyX1 tyX1_ok nmX1 qU_X1 rfl rfl (by decide) qF_X1_15 rfl rfl (tyX1_ok 1 (by decide)) rfl rfl hs d hp kk
theorem g_X2_12 (h : mOk Γ κ RX2 cc nL ret R) (pc' : Nat) {a b : Nat} (hs : sh a = some (.inl 2)) (hPa : P a 0 = some b) (d : decode cc pc = .ok (.getfield 12, 3)) (hp : pc + 3 = pc') (kk : mV Γ Q kc ks n sh P D E lv (.ref b :: st) pc') : mV Γ Q kc ks n sh P D E lv (.ref a :: st) pc := V_getr (k := 0) (T := TX2) h pc' qU_X2 rfl rfl (by decide) qF_X2_12 rfl hs hPa d hp kk
theorem p_X2_12 (h : mOk Γ κ RX2 cc nL ret R) (pc' : Nat) {a b : Nat} (hin2 : mInit Γ) (hs : sh a = some (.inl 2)) (d : decode cc pc = .ok (.putfield 12, 3)) (hp : pc + 3 = pc') (kk : mV Γ Q kc ks n sh (updP P a 0 (some b)) D E lv st pc') : mV Γ Q kc ks n sh P D E lv (.ref b :: .ref a :: st) pc := V_putFr (k := 0) (T := TX2) (host := "") h pc' tyX2 tyX2_ok nmX2 qU_X2 rfl rfl (by decide) qF_X2_12 rfl rfl hin2 rfl (tyX2_ok 0 (by decide)) rfl rfl hs d hp kk
theorem g_X2_21 (h : mOk Γ κ RX2 cc nL ret R) (pc' : Nat) {a b : Nat} (hs : sh a = some (.inl 2)) (hPa : P a 1 = some b) (d : decode cc pc = .ok (.getfield 21, 3)) (hp : pc + 3 = pc') (kk : mV Γ Q kc ks n sh P D E lv (.ref b :: st) pc') : mV Γ Q kc ks n sh P D E lv (.ref a :: st) pc := V_getr (k := 1) (T := TX2) h pc' qU_X2 rfl rfl (by decide) qF_X2_21 rfl hs hPa d hp kk
theorem p_X2_21 (h : mOk Γ κ RX2 cc nL ret R) (pc' : Nat) {a b : Nat} (hin2 : mInit Γ) (hs : sh a = some (.inl 2)) (d : decode cc pc = .ok (.putfield 21, 3)) (hp : pc + 3 = pc') (kk : mV Γ Q kc ks n sh (updP P a 1 (some b)) D E lv st pc') : mV Γ Q kc ks n sh P D E lv (.ref b :: .ref a :: st) pc := V_putFr (k := 1) (T := TX2) (host := "") h pc' tyX2 tyX2_ok nmX2 qU_X2 rfl rfl (by decide) qF_X2_21 rfl rfl hin2 rfl (tyX2_ok 1 (by decide)) rfl rfl hs d hp kk
theorem g_X2_28 (h : mOk Γ κ RX2 cc nL ret R) (pc' : Nat) {a b : Nat} (hs : sh a = some (.inl 2)) (hPa : P a 2 = some b) (d : decode cc pc = .ok (.getfield 28, 3)) (hp : pc + 3 = pc') (kk : mV Γ Q kc ks n sh P D E lv (.ref b :: st) pc') : mV Γ Q kc ks n sh P D E lv (.ref a :: st) pc := V_getr (k := 2) (T := TX2) h pc' qU_X2 rfl rfl (by decide) qF_X2_28 rfl hs hPa d hp kk
theorem p_X2_28 (h : mOk Γ κ RX2 cc nL ret R) (pc' : Nat) {a b : Nat} (hin2 : mInit Γ) (hs : sh a = some (.inl 2)) (d : decode cc pc = .ok (.putfield 28, 3)) (hp : pc + 3 = pc') (kk : mV Γ Q kc ks n sh (updP P a 2 (some b)) D E lv st pc') : mV Γ Q kc ks n sh P D E lv (.ref b :: .ref a :: st) pc := V_putFr (k := 2) (T := TX2) (host := "") h pc' tyX2 tyX2_ok nmX2 qU_X2 rfl rfl (by decide) qF_X2_28 rfl rfl hin2 rfl (tyX2_ok 2 (by decide)) rfl rfl hs d hp kk
theorem g_X2_32 (h : mOk Γ κ RX2 cc nL ret R) (pc' : Nat) {a b : Nat} (hs : sh a = some (.inl 2)) (hPa : P a 3 = some b) (d : decode cc pc = .ok (.getfield 32, 3)) (hp : pc + 3 = pc') (kk : mV Γ Q kc ks n sh P D E lv (.ref b :: st) pc') : mV Γ Q kc ks n sh P D E lv (.ref a :: st) pc := V_getr (k := 3) (T := TX2) h pc' qU_X2 rfl rfl (by decide) qF_X2_32 rfl hs hPa d hp kk
theorem p_X2_32 (h : mOk Γ κ RX2 cc nL ret R) (pc' : Nat) {a b : Nat} (hin2 : mInit Γ) (hs : sh a = some (.inl 2)) (d : decode cc pc = .ok (.putfield 32, 3)) (hp : pc + 3 = pc') (kk : mV Γ Q kc ks n sh (updP P a 3 (some b)) D E lv st pc') : mV Γ Q kc ks n sh P D E lv (.ref b :: .ref a :: st) pc := V_putFr (k := 3) (T := TX2) (host := "") h pc' tyX2 tyX2_ok nmX2 qU_X2 rfl rfl (by decide) qF_X2_32 rfl rfl hin2 rfl (tyX2_ok 3 (by decide)) rfl rfl hs d hp kk
theorem g_X2_45 (h : mOk Γ κ RX2 cc nL ret R) (pc' : Nat) {a : Nat} (hs : sh a = some (.inl 2)) (d : decode cc pc = .ok (.getfield 45, 3)) (hp : pc + 3 = pc') (kk : mV Γ Q kc ks n sh P D E lv (.int (D a 4) :: st) pc') : mV Γ Q kc ks n sh P D E lv (.ref a :: st) pc := V_get (k := 4) (T := TX2) h pc' qU_X2 rfl rfl (by decide) qF_X2_45 rfl hs d hp kk
theorem p_X2_45 (h : mOk Γ κ RX2 cc nL ret R) (pc' : Nat) {a : Nat} {x : Int32} (hs : sh a = some (.inl 2)) (d : decode cc pc = .ok (.putfield 45, 3)) (hp : pc + 3 = pc') (kk : mV Γ Q kc ks n sh P (upd2 D a 4 x) E lv st pc') : mV Γ Q kc ks n sh P D E lv (.int x :: .ref a :: st) pc := V_put (k := 4) (T := TX2) (host := "") h pc' tyX2 tyX2_ok nmX2 qU_X2 rfl rfl (by decide) qF_X2_45 rfl rfl (tyX2_ok 4 (by decide)) rfl rfl hs d hp kk
theorem g_X2_49 (h : mOk Γ κ RX2 cc nL ret R) (pc' : Nat) {a : Nat} (hs : sh a = some (.inl 2)) (d : decode cc pc = .ok (.getfield 49, 3)) (hp : pc + 3 = pc') (kk : mV Γ Q kc ks n sh P D E lv (.int (D a 5) :: st) pc') : mV Γ Q kc ks n sh P D E lv (.ref a :: st) pc := V_get (k := 5) (T := TX2) h pc' qU_X2 rfl rfl (by decide) qF_X2_49 rfl hs d hp kk
theorem p_X2_49 (h : mOk Γ κ RX2 cc nL ret R) (pc' : Nat) {a : Nat} {x : Int32} (hs : sh a = some (.inl 2)) (d : decode cc pc = .ok (.putfield 49, 3)) (hp : pc + 3 = pc') (kk : mV Γ Q kc ks n sh P (upd2 D a 5 x) E lv st pc') : mV Γ Q kc ks n sh P D E lv (.int x :: .ref a :: st) pc := V_put (k := 5) (T := TX2) (host := "") h pc' tyX2 tyX2_ok nmX2 qU_X2 rfl rfl (by decide) qF_X2_49 rfl rfl (tyX2_ok 5 (by decide)) rfl rfl hs d hp kk
theorem g_X2_52 (h : mOk Γ κ RX2 cc nL ret R) (pc' : Nat) {a : Nat} (hs : sh a = some (.inl 2)) (d : decode cc pc = .ok (.getfield 52, 3)) (hp : pc + 3 = pc') (kk : mV Γ Q kc ks n sh P D E lv (.int (D a 6) :: st) pc') : mV Γ Q kc ks n sh P D E lv (.ref a :: st) pc := V_get (k := 6) (T := TX2) h pc' qU_X2 rfl rfl (by decide) qF_X2_52 rfl hs d hp kk
theorem p_X2_52 (h : mOk Γ κ RX2 cc nL ret R) (pc' : Nat) {a : Nat} {x : Int32} (hs : sh a = some (.inl 2)) (d : decode cc pc = .ok (.putfield 52, 3)) (hp : pc + 3 = pc') (kk : mV Γ Q kc ks n sh P (upd2 D a 6 x) E lv st pc') : mV Γ Q kc ks n sh P D E lv (.int x :: .ref a :: st) pc := V_put (k := 6) (T := TX2) (host := "") h pc' tyX2 tyX2_ok nmX2 qU_X2 rfl rfl (by decide) qF_X2_52 rfl rfl (tyX2_ok 6 (by decide)) rfl rfl hs d hp kk
theorem g_X2_55 (h : mOk Γ κ RX2 cc nL ret R) (pc' : Nat) {a : Nat} (hs : sh a = some (.inl 2)) (d : decode cc pc = .ok (.getfield 55, 3)) (hp : pc + 3 = pc') (kk : mV Γ Q kc ks n sh P D E lv (.int (D a 7) :: st) pc') : mV Γ Q kc ks n sh P D E lv (.ref a :: st) pc := V_get (k := 7) (T := TX2) h pc' qU_X2 rfl rfl (by decide) qF_X2_55 rfl hs d hp kk
theorem p_X2_55 (h : mOk Γ κ RX2 cc nL ret R) (pc' : Nat) {a : Nat} {x : Int32} (hs : sh a = some (.inl 2)) (d : decode cc pc = .ok (.putfield 55, 3)) (hp : pc + 3 = pc') (kk : mV Γ Q kc ks n sh P (upd2 D a 7 x) E lv st pc') : mV Γ Q kc ks n sh P D E lv (.int x :: .ref a :: st) pc := V_put (k := 7) (T := TX2) (host := "") h pc' tyX2 tyX2_ok nmX2 qU_X2 rfl rfl (by decide) qF_X2_55 rfl rfl (tyX2_ok 7 (by decide)) rfl rfl hs d hp kk
theorem gN_X2_95 (h : mOk Γ κ RX2 cc nL ret R) (pc' : Nat) {a : Nat} (hs : sh a = some (.inl 3)) (d : decode cc pc = .ok (.getfield 95, 3)) (hp : pc + 3 = pc') (kk : mV Γ Q kc ks n sh P D E lv (.int (D a 2) :: st) pc') : mV Γ Q kc ks n sh P D E lv (.ref a :: st) pc := V_getN (k := 2) (T := TX3) h pc' qU_X3 rfl rfl (by decide) (List.mem_of_getElem? (i := 12) rfl) rfl hs d hp kk
theorem gN_X2_104 (h : mOk Γ κ RX2 cc nL ret R) (pc' : Nat) {a : Nat} (hs : sh a = some (.inl 3)) (d : decode cc pc = .ok (.getfield 104, 3)) (hp : pc + 3 = pc') (kk : mV Γ Q kc ks n sh P D E lv (.int (D a 11) :: st) pc') : mV Γ Q kc ks n sh P D E lv (.ref a :: st) pc := V_getN (k := 11) (T := TX3) h pc' qU_X3 rfl rfl (by decide) (List.mem_of_getElem? (i := 25) rfl) rfl hs d hp kk
theorem pN_X2_104 (h : mOk Γ κ RX2 cc nL ret R) (pc' : Nat) {a : Nat} {x : Int32} (hs : sh a = some (.inl 3)) (d : decode cc pc = .ok (.putfield 104, 3)) (hp : pc + 3 = pc') (kk : mV Γ Q kc ks n sh P (upd2 D a 11 x) E lv st pc') : mV Γ Q kc ks n sh P D E lv (.int x :: .ref a :: st) pc := V_putN (k := 11) (T := TX3) h pc' tyX3 tyX3_ok nmX3 qU_X3 rfl rfl (by decide) (List.mem_of_getElem? (i := 25) rfl) rfl rfl (tyX3_ok 11 (by decide)) rfl rfl hs d hp kk
theorem gN_X2_115 (h : mOk Γ κ RX2 cc nL ret R) (pc' : Nat) {a : Nat} (hs : sh a = some (.inl 3)) (d : decode cc pc = .ok (.getfield 115, 3)) (hp : pc + 3 = pc') (kk : mV Γ Q kc ks n sh P D E lv (.int (D a 12) :: st) pc') : mV Γ Q kc ks n sh P D E lv (.ref a :: st) pc := V_getN (k := 12) (T := TX3) h pc' qU_X3 rfl rfl (by decide) (List.mem_of_getElem? (i := 26) rfl) rfl hs d hp kk
theorem gN_X2_125 (h : mOk Γ κ RX2 cc nL ret R) (pc' : Nat) {a : Nat} (hs : sh a = some (.inl 3)) (d : decode cc pc = .ok (.getfield 125, 3)) (hp : pc + 3 = pc') (kk : mV Γ Q kc ks n sh P D E lv (.int (D a 0) :: st) pc') : mV Γ Q kc ks n sh P D E lv (.ref a :: st) pc := V_getN (k := 0) (T := TX3) h pc' qU_X3 rfl rfl (by decide) (List.mem_of_getElem? (i := 9) rfl) rfl hs d hp kk
theorem gN_X2_139 (h : mOk Γ κ RX2 cc nL ret R) (pc' : Nat) {a : Nat} (hs : sh a = some (.inl 3)) (d : decode cc pc = .ok (.getfield 139, 3)) (hp : pc + 3 = pc') (kk : mV Γ Q kc ks n sh P D E lv (.int (D a 8) :: st) pc') : mV Γ Q kc ks n sh P D E lv (.ref a :: st) pc := V_getN (k := 8) (T := TX3) h pc' qU_X3 rfl rfl (by decide) (List.mem_of_getElem? (i := 22) rfl) rfl hs d hp kk
theorem pN_X2_139 (h : mOk Γ κ RX2 cc nL ret R) (pc' : Nat) {a : Nat} {x : Int32} (hs : sh a = some (.inl 3)) (d : decode cc pc = .ok (.putfield 139, 3)) (hp : pc + 3 = pc') (kk : mV Γ Q kc ks n sh P (upd2 D a 8 x) E lv st pc') : mV Γ Q kc ks n sh P D E lv (.int x :: .ref a :: st) pc := V_putN (k := 8) (T := TX3) h pc' tyX3 tyX3_ok nmX3 qU_X3 rfl rfl (by decide) (List.mem_of_getElem? (i := 22) rfl) rfl rfl (tyX3_ok 8 (by decide)) rfl rfl hs d hp kk
theorem gN_X2_174 (h : mOk Γ κ RX2 cc nL ret R) (pc' : Nat) {a : Nat} (hs : sh a = some (.inl 3)) (d : decode cc pc = .ok (.getfield 174, 3)) (hp : pc + 3 = pc') (kk : mV Γ Q kc ks n sh P D E lv (.int (D a 3) :: st) pc') : mV Γ Q kc ks n sh P D E lv (.ref a :: st) pc := V_getN (k := 3) (T := TX3) h pc' qU_X3 rfl rfl (by decide) (List.mem_of_getElem? (i := 15) rfl) rfl hs d hp kk
theorem gN_X2_177 (h : mOk Γ κ RX2 cc nL ret R) (pc' : Nat) {a : Nat} (hs : sh a = some (.inl 3)) (d : decode cc pc = .ok (.getfield 177, 3)) (hp : pc + 3 = pc') (kk : mV Γ Q kc ks n sh P D E lv (.int (D a 4) :: st) pc') : mV Γ Q kc ks n sh P D E lv (.ref a :: st) pc := V_getN (k := 4) (T := TX3) h pc' qU_X3 rfl rfl (by decide) (List.mem_of_getElem? (i := 18) rfl) rfl hs d hp kk
theorem gN_X2_180 (h : mOk Γ κ RX2 cc nL ret R) (pc' : Nat) {a : Nat} (hs : sh a = some (.inl 3)) (d : decode cc pc = .ok (.getfield 180, 3)) (hp : pc + 3 = pc') (kk : mV Γ Q kc ks n sh P D E lv (.int (D a 5) :: st) pc') : mV Γ Q kc ks n sh P D E lv (.ref a :: st) pc := V_getN (k := 5) (T := TX3) h pc' qU_X3 rfl rfl (by decide) (List.mem_of_getElem? (i := 19) rfl) rfl hs d hp kk
theorem gN_X2_183 (h : mOk Γ κ RX2 cc nL ret R) (pc' : Nat) {a : Nat} (hs : sh a = some (.inl 3)) (d : decode cc pc = .ok (.getfield 183, 3)) (hp : pc + 3 = pc') (kk : mV Γ Q kc ks n sh P D E lv (.int (D a 6) :: st) pc') : mV Γ Q kc ks n sh P D E lv (.ref a :: st) pc := V_getN (k := 6) (T := TX3) h pc' qU_X3 rfl rfl (by decide) (List.mem_of_getElem? (i := 20) rfl) rfl hs d hp kk
theorem gN_X2_186 (h : mOk Γ κ RX2 cc nL ret R) (pc' : Nat) {a : Nat} (hs : sh a = some (.inl 3)) (d : decode cc pc = .ok (.getfield 186, 3)) (hp : pc + 3 = pc') (kk : mV Γ Q kc ks n sh P D E lv (.int (D a 7) :: st) pc') : mV Γ Q kc ks n sh P D E lv (.ref a :: st) pc := V_getN (k := 7) (T := TX3) h pc' qU_X3 rfl rfl (by decide) (List.mem_of_getElem? (i := 21) rfl) rfl hs d hp kk
theorem gN_X2_195 (h : mOk Γ κ RX2 cc nL ret R) (pc' : Nat) {a : Nat} (hs : sh a = some (.inl 3)) (d : decode cc pc = .ok (.getfield 195, 3)) (hp : pc + 3 = pc') (kk : mV Γ Q kc ks n sh P D E lv (.int (D a 9) :: st) pc') : mV Γ Q kc ks n sh P D E lv (.ref a :: st) pc := V_getN (k := 9) (T := TX3) h pc' qU_X3 rfl rfl (by decide) (List.mem_of_getElem? (i := 24) rfl) rfl hs d hp kk
theorem gN_X2_201 (h : mOk Γ κ RX2 cc nL ret R) (pc' : Nat) {a : Nat} (hs : sh a = some (.inl 3)) (d : decode cc pc = .ok (.getfield 201, 3)) (hp : pc + 3 = pc') (kk : mV Γ Q kc ks n sh P D E lv (.int (D a 13) :: st) pc') : mV Γ Q kc ks n sh P D E lv (.ref a :: st) pc := V_getN (k := 13) (T := TX3) h pc' qU_X3 rfl rfl (by decide) (List.mem_of_getElem? (i := 27) rfl) rfl hs d hp kk
theorem gN_X2_204 (h : mOk Γ κ RX2 cc nL ret R) (pc' : Nat) {a : Nat} (hs : sh a = some (.inl 0)) (d : decode cc pc = .ok (.getfield 204, 3)) (hp : pc + 3 = pc') (kk : mV Γ Q kc ks n sh P D E lv (.int (D a 0) :: st) pc') : mV Γ Q kc ks n sh P D E lv (.ref a :: st) pc := V_getN (k := 0) (T := TX0) h pc' qU_X0 rfl rfl (by decide) (List.mem_of_getElem? (i := 2) rfl) rfl hs d hp kk
theorem gN_X2_207 (h : mOk Γ κ RX2 cc nL ret R) (pc' : Nat) {a : Nat} (hs : sh a = some (.inl 0)) (d : decode cc pc = .ok (.getfield 207, 3)) (hp : pc + 3 = pc') (kk : mV Γ Q kc ks n sh P D E lv (.int (D a 1) :: st) pc') : mV Γ Q kc ks n sh P D E lv (.ref a :: st) pc := V_getN (k := 1) (T := TX0) h pc' qU_X0 rfl rfl (by decide) (List.mem_of_getElem? (i := 4) rfl) rfl hs d hp kk
theorem gN_X2_210 (h : mOk Γ κ RX2 cc nL ret R) (pc' : Nat) {a : Nat} (hs : sh a = some (.inl 0)) (d : decode cc pc = .ok (.getfield 210, 3)) (hp : pc + 3 = pc') (kk : mV Γ Q kc ks n sh P D E lv (.int (D a 2) :: st) pc') : mV Γ Q kc ks n sh P D E lv (.ref a :: st) pc := V_getN (k := 2) (T := TX0) h pc' qU_X0 rfl rfl (by decide) (List.mem_of_getElem? (i := 5) rfl) rfl hs d hp kk
theorem gN_X2_213 (h : mOk Γ κ RX2 cc nL ret R) (pc' : Nat) {a : Nat} (hs : sh a = some (.inl 0)) (d : decode cc pc = .ok (.getfield 213, 3)) (hp : pc + 3 = pc') (kk : mV Γ Q kc ks n sh P D E lv (.int (D a 3) :: st) pc') : mV Γ Q kc ks n sh P D E lv (.ref a :: st) pc := V_getN (k := 3) (T := TX0) h pc' qU_X0 rfl rfl (by decide) (List.mem_of_getElem? (i := 7) rfl) rfl hs d hp kk
theorem p_X3_9 (h : mOk Γ κ RX3 cc nL ret R) (pc' : Nat) {a : Nat} {x : Int32} (hin2 : mInit Γ) (hs : sh a = some (.inl 3)) (d : decode cc pc = .ok (.putfield 9, 3)) (hp : pc + 3 = pc') (kk : mV Γ Q kc ks n sh P (upd2 D a 0 x) E lv st pc') : mV Γ Q kc ks n sh P D E lv (.int x :: .ref a :: st) pc := V_putF (k := 0) (T := TX3) (host := "") h pc' tyX3 tyX3_ok nmX3 qU_X3 rfl rfl (by decide) qF_X3_9 rfl rfl hin2 rfl (tyX3_ok 0 (by decide)) rfl rfl hs d hp kk
theorem g_X3_15 (h : mOk Γ κ RX3 cc nL ret R) (pc' : Nat) {a : Nat} (hs : sh a = some (.inl 3)) (d : decode cc pc = .ok (.getfield 15, 3)) (hp : pc + 3 = pc') (kk : mV Γ Q kc ks n sh P D E lv (.int (D a 1) :: st) pc') : mV Γ Q kc ks n sh P D E lv (.ref a :: st) pc := V_get (k := 1) (T := TX3) h pc' qU_X3 rfl rfl (by decide) qF_X3_15 rfl hs d hp kk
theorem p_X3_15 (h : mOk Γ κ RX3 cc nL ret R) (pc' : Nat) {a : Nat} {x : Int32} (hb : x = 0 ∨ x = 1) (hs : sh a = some (.inl 3)) (d : decode cc pc = .ok (.putfield 15, 3)) (hp : pc + 3 = pc') (kk : mV Γ Q kc ks n sh P (upd2 D a 1 x) E lv st pc') : mV Γ Q kc ks n sh P D E lv (.int x :: .ref a :: st) pc := V_put (k := 1) (T := TX3) (host := "") h pc' tyX3 tyX3_ok nmX3 qU_X3 rfl rfl (by decide) qF_X3_15 rfl rfl (tyX3_ok 1 (by decide)) (by rcases hb with rfl | rfl <;> rfl) (by rcases hb with rfl | rfl <;> rfl) hs d hp kk
theorem g_X3_19 (h : mOk Γ κ RX3 cc nL ret R) (pc' : Nat) {a : Nat} (hs : sh a = some (.inl 3)) (d : decode cc pc = .ok (.getfield 19, 3)) (hp : pc + 3 = pc') (kk : mV Γ Q kc ks n sh P D E lv (.int (D a 2) :: st) pc') : mV Γ Q kc ks n sh P D E lv (.ref a :: st) pc := V_get (k := 2) (T := TX3) h pc' qU_X3 rfl rfl (by decide) qF_X3_19 rfl hs d hp kk
theorem p_X3_19 (h : mOk Γ κ RX3 cc nL ret R) (pc' : Nat) {a : Nat} {x : Int32} (hs : sh a = some (.inl 3)) (d : decode cc pc = .ok (.putfield 19, 3)) (hp : pc + 3 = pc') (kk : mV Γ Q kc ks n sh P (upd2 D a 2 x) E lv st pc') : mV Γ Q kc ks n sh P D E lv (.int x :: .ref a :: st) pc := V_put (k := 2) (T := TX3) (host := "") h pc' tyX3 tyX3_ok nmX3 qU_X3 rfl rfl (by decide) qF_X3_19 rfl rfl (tyX3_ok 2 (by decide)) rfl rfl hs d hp kk
theorem g_X3_22 (h : mOk Γ κ RX3 cc nL ret R) (pc' : Nat) {a : Nat} (hs : sh a = some (.inl 3)) (d : decode cc pc = .ok (.getfield 22, 3)) (hp : pc + 3 = pc') (kk : mV Γ Q kc ks n sh P D E lv (.int (D a 3) :: st) pc') : mV Γ Q kc ks n sh P D E lv (.ref a :: st) pc := V_get (k := 3) (T := TX3) h pc' qU_X3 rfl rfl (by decide) qF_X3_22 rfl hs d hp kk
theorem p_X3_22 (h : mOk Γ κ RX3 cc nL ret R) (pc' : Nat) {a : Nat} {x : Int32} (hs : sh a = some (.inl 3)) (d : decode cc pc = .ok (.putfield 22, 3)) (hp : pc + 3 = pc') (kk : mV Γ Q kc ks n sh P (upd2 D a 3 x) E lv st pc') : mV Γ Q kc ks n sh P D E lv (.int x :: .ref a :: st) pc := V_put (k := 3) (T := TX3) (host := "") h pc' tyX3 tyX3_ok nmX3 qU_X3 rfl rfl (by decide) qF_X3_22 rfl rfl (tyX3_ok 3 (by decide)) rfl rfl hs d hp kk
theorem g_X3_25 (h : mOk Γ κ RX3 cc nL ret R) (pc' : Nat) {a : Nat} (hs : sh a = some (.inl 3)) (d : decode cc pc = .ok (.getfield 25, 3)) (hp : pc + 3 = pc') (kk : mV Γ Q kc ks n sh P D E lv (.int (D a 4) :: st) pc') : mV Γ Q kc ks n sh P D E lv (.ref a :: st) pc := V_get (k := 4) (T := TX3) h pc' qU_X3 rfl rfl (by decide) qF_X3_25 rfl hs d hp kk
theorem p_X3_25 (h : mOk Γ κ RX3 cc nL ret R) (pc' : Nat) {a : Nat} {x : Int32} (hs : sh a = some (.inl 3)) (d : decode cc pc = .ok (.putfield 25, 3)) (hp : pc + 3 = pc') (kk : mV Γ Q kc ks n sh P (upd2 D a 4 x) E lv st pc') : mV Γ Q kc ks n sh P D E lv (.int x :: .ref a :: st) pc := V_put (k := 4) (T := TX3) (host := "") h pc' tyX3 tyX3_ok nmX3 qU_X3 rfl rfl (by decide) qF_X3_25 rfl rfl (tyX3_ok 4 (by decide)) rfl rfl hs d hp kk
theorem g_X3_28 (h : mOk Γ κ RX3 cc nL ret R) (pc' : Nat) {a : Nat} (hs : sh a = some (.inl 3)) (d : decode cc pc = .ok (.getfield 28, 3)) (hp : pc + 3 = pc') (kk : mV Γ Q kc ks n sh P D E lv (.int (D a 5) :: st) pc') : mV Γ Q kc ks n sh P D E lv (.ref a :: st) pc := V_get (k := 5) (T := TX3) h pc' qU_X3 rfl rfl (by decide) qF_X3_28 rfl hs d hp kk
theorem p_X3_28 (h : mOk Γ κ RX3 cc nL ret R) (pc' : Nat) {a : Nat} {x : Int32} (hs : sh a = some (.inl 3)) (d : decode cc pc = .ok (.putfield 28, 3)) (hp : pc + 3 = pc') (kk : mV Γ Q kc ks n sh P (upd2 D a 5 x) E lv st pc') : mV Γ Q kc ks n sh P D E lv (.int x :: .ref a :: st) pc := V_put (k := 5) (T := TX3) (host := "") h pc' tyX3 tyX3_ok nmX3 qU_X3 rfl rfl (by decide) qF_X3_28 rfl rfl (tyX3_ok 5 (by decide)) rfl rfl hs d hp kk
theorem g_X3_31 (h : mOk Γ κ RX3 cc nL ret R) (pc' : Nat) {a : Nat} (hs : sh a = some (.inl 3)) (d : decode cc pc = .ok (.getfield 31, 3)) (hp : pc + 3 = pc') (kk : mV Γ Q kc ks n sh P D E lv (.int (D a 6) :: st) pc') : mV Γ Q kc ks n sh P D E lv (.ref a :: st) pc := V_get (k := 6) (T := TX3) h pc' qU_X3 rfl rfl (by decide) qF_X3_31 rfl hs d hp kk
theorem p_X3_31 (h : mOk Γ κ RX3 cc nL ret R) (pc' : Nat) {a : Nat} {x : Int32} (hs : sh a = some (.inl 3)) (d : decode cc pc = .ok (.putfield 31, 3)) (hp : pc + 3 = pc') (kk : mV Γ Q kc ks n sh P (upd2 D a 6 x) E lv st pc') : mV Γ Q kc ks n sh P D E lv (.int x :: .ref a :: st) pc := V_put (k := 6) (T := TX3) (host := "") h pc' tyX3 tyX3_ok nmX3 qU_X3 rfl rfl (by decide) qF_X3_31 rfl rfl (tyX3_ok 6 (by decide)) rfl rfl hs d hp kk
theorem g_X3_34 (h : mOk Γ κ RX3 cc nL ret R) (pc' : Nat) {a : Nat} (hs : sh a = some (.inl 3)) (d : decode cc pc = .ok (.getfield 34, 3)) (hp : pc + 3 = pc') (kk : mV Γ Q kc ks n sh P D E lv (.int (D a 7) :: st) pc') : mV Γ Q kc ks n sh P D E lv (.ref a :: st) pc := V_get (k := 7) (T := TX3) h pc' qU_X3 rfl rfl (by decide) qF_X3_34 rfl hs d hp kk
theorem p_X3_34 (h : mOk Γ κ RX3 cc nL ret R) (pc' : Nat) {a : Nat} {x : Int32} (hs : sh a = some (.inl 3)) (d : decode cc pc = .ok (.putfield 34, 3)) (hp : pc + 3 = pc') (kk : mV Γ Q kc ks n sh P (upd2 D a 7 x) E lv st pc') : mV Γ Q kc ks n sh P D E lv (.int x :: .ref a :: st) pc := V_put (k := 7) (T := TX3) (host := "") h pc' tyX3 tyX3_ok nmX3 qU_X3 rfl rfl (by decide) qF_X3_34 rfl rfl (tyX3_ok 7 (by decide)) rfl rfl hs d hp kk
theorem g_X3_37 (h : mOk Γ κ RX3 cc nL ret R) (pc' : Nat) {a : Nat} (hs : sh a = some (.inl 3)) (d : decode cc pc = .ok (.getfield 37, 3)) (hp : pc + 3 = pc') (kk : mV Γ Q kc ks n sh P D E lv (.int (D a 8) :: st) pc') : mV Γ Q kc ks n sh P D E lv (.ref a :: st) pc := V_get (k := 8) (T := TX3) h pc' qU_X3 rfl rfl (by decide) qF_X3_37 rfl hs d hp kk
theorem p_X3_37 (h : mOk Γ κ RX3 cc nL ret R) (pc' : Nat) {a : Nat} {x : Int32} (hs : sh a = some (.inl 3)) (d : decode cc pc = .ok (.putfield 37, 3)) (hp : pc + 3 = pc') (kk : mV Γ Q kc ks n sh P (upd2 D a 8 x) E lv st pc') : mV Γ Q kc ks n sh P D E lv (.int x :: .ref a :: st) pc := V_put (k := 8) (T := TX3) (host := "") h pc' tyX3 tyX3_ok nmX3 qU_X3 rfl rfl (by decide) qF_X3_37 rfl rfl (tyX3_ok 8 (by decide)) rfl rfl hs d hp kk
theorem g_X3_40 (h : mOk Γ κ RX3 cc nL ret R) (pc' : Nat) {a : Nat} (hs : sh a = some (.inl 3)) (d : decode cc pc = .ok (.getfield 40, 3)) (hp : pc + 3 = pc') (kk : mV Γ Q kc ks n sh P D E lv (.int (D a 9) :: st) pc') : mV Γ Q kc ks n sh P D E lv (.ref a :: st) pc := V_get (k := 9) (T := TX3) h pc' qU_X3 rfl rfl (by decide) qF_X3_40 rfl hs d hp kk
theorem p_X3_40 (h : mOk Γ κ RX3 cc nL ret R) (pc' : Nat) {a : Nat} {x : Int32} (hs : sh a = some (.inl 3)) (d : decode cc pc = .ok (.putfield 40, 3)) (hp : pc + 3 = pc') (kk : mV Γ Q kc ks n sh P (upd2 D a 9 x) E lv st pc') : mV Γ Q kc ks n sh P D E lv (.int x :: .ref a :: st) pc := V_put (k := 9) (T := TX3) (host := "") h pc' tyX3 tyX3_ok nmX3 qU_X3 rfl rfl (by decide) qF_X3_40 rfl rfl (tyX3_ok 9 (by decide)) rfl rfl hs d hp kk
theorem g_X3_43 (h : mOk Γ κ RX3 cc nL ret R) (pc' : Nat) {a : Nat} (hs : sh a = some (.inl 3)) (d : decode cc pc = .ok (.getfield 43, 3)) (hp : pc + 3 = pc') (kk : mV Γ Q kc ks n sh P D E lv (.int (D a 10) :: st) pc') : mV Γ Q kc ks n sh P D E lv (.ref a :: st) pc := V_get (k := 10) (T := TX3) h pc' qU_X3 rfl rfl (by decide) qF_X3_43 rfl hs d hp kk
theorem p_X3_43 (h : mOk Γ κ RX3 cc nL ret R) (pc' : Nat) {a : Nat} {x : Int32} (hs : sh a = some (.inl 3)) (d : decode cc pc = .ok (.putfield 43, 3)) (hp : pc + 3 = pc') (kk : mV Γ Q kc ks n sh P (upd2 D a 10 x) E lv st pc') : mV Γ Q kc ks n sh P D E lv (.int x :: .ref a :: st) pc := V_put (k := 10) (T := TX3) (host := "") h pc' tyX3 tyX3_ok nmX3 qU_X3 rfl rfl (by decide) qF_X3_43 rfl rfl (tyX3_ok 10 (by decide)) rfl rfl hs d hp kk
theorem g_X3_46 (h : mOk Γ κ RX3 cc nL ret R) (pc' : Nat) {a : Nat} (hs : sh a = some (.inl 3)) (d : decode cc pc = .ok (.getfield 46, 3)) (hp : pc + 3 = pc') (kk : mV Γ Q kc ks n sh P D E lv (.int (D a 11) :: st) pc') : mV Γ Q kc ks n sh P D E lv (.ref a :: st) pc := V_get (k := 11) (T := TX3) h pc' qU_X3 rfl rfl (by decide) qF_X3_46 rfl hs d hp kk
theorem p_X3_46 (h : mOk Γ κ RX3 cc nL ret R) (pc' : Nat) {a : Nat} {x : Int32} (hs : sh a = some (.inl 3)) (d : decode cc pc = .ok (.putfield 46, 3)) (hp : pc + 3 = pc') (kk : mV Γ Q kc ks n sh P (upd2 D a 11 x) E lv st pc') : mV Γ Q kc ks n sh P D E lv (.int x :: .ref a :: st) pc := V_put (k := 11) (T := TX3) (host := "") h pc' tyX3 tyX3_ok nmX3 qU_X3 rfl rfl (by decide) qF_X3_46 rfl rfl (tyX3_ok 11 (by decide)) rfl rfl hs d hp kk
theorem g_X3_49 (h : mOk Γ κ RX3 cc nL ret R) (pc' : Nat) {a : Nat} (hs : sh a = some (.inl 3)) (d : decode cc pc = .ok (.getfield 49, 3)) (hp : pc + 3 = pc') (kk : mV Γ Q kc ks n sh P D E lv (.int (D a 12) :: st) pc') : mV Γ Q kc ks n sh P D E lv (.ref a :: st) pc := V_get (k := 12) (T := TX3) h pc' qU_X3 rfl rfl (by decide) qF_X3_49 rfl hs d hp kk
theorem p_X3_49 (h : mOk Γ κ RX3 cc nL ret R) (pc' : Nat) {a : Nat} {x : Int32} (hs : sh a = some (.inl 3)) (d : decode cc pc = .ok (.putfield 49, 3)) (hp : pc + 3 = pc') (kk : mV Γ Q kc ks n sh P (upd2 D a 12 x) E lv st pc') : mV Γ Q kc ks n sh P D E lv (.int x :: .ref a :: st) pc := V_put (k := 12) (T := TX3) (host := "") h pc' tyX3 tyX3_ok nmX3 qU_X3 rfl rfl (by decide) qF_X3_49 rfl rfl (tyX3_ok 12 (by decide)) rfl rfl hs d hp kk
theorem g_X3_52 (h : mOk Γ κ RX3 cc nL ret R) (pc' : Nat) {a : Nat} (hs : sh a = some (.inl 3)) (d : decode cc pc = .ok (.getfield 52, 3)) (hp : pc + 3 = pc') (kk : mV Γ Q kc ks n sh P D E lv (.int (D a 13) :: st) pc') : mV Γ Q kc ks n sh P D E lv (.ref a :: st) pc := V_get (k := 13) (T := TX3) h pc' qU_X3 rfl rfl (by decide) qF_X3_52 rfl hs d hp kk
theorem p_X3_52 (h : mOk Γ κ RX3 cc nL ret R) (pc' : Nat) {a : Nat} {x : Int32} (hs : sh a = some (.inl 3)) (d : decode cc pc = .ok (.putfield 52, 3)) (hp : pc + 3 = pc') (kk : mV Γ Q kc ks n sh P (upd2 D a 13 x) E lv st pc') : mV Γ Q kc ks n sh P D E lv (.int x :: .ref a :: st) pc := V_put (k := 13) (T := TX3) (host := "") h pc' tyX3 tyX3_ok nmX3 qU_X3 rfl rfl (by decide) qF_X3_52 rfl rfl (tyX3_ok 13 (by decide)) rfl rfl hs d hp kk
theorem g_X3_55 (h : mOk Γ κ RX3 cc nL ret R) (pc' : Nat) {a : Nat} (hs : sh a = some (.inl 3)) (d : decode cc pc = .ok (.getfield 55, 3)) (hp : pc + 3 = pc') (kk : mV Γ Q kc ks n sh P D E lv (.int (D a 14) :: st) pc') : mV Γ Q kc ks n sh P D E lv (.ref a :: st) pc := V_get (k := 14) (T := TX3) h pc' qU_X3 rfl rfl (by decide) qF_X3_55 rfl hs d hp kk
theorem p_X3_55 (h : mOk Γ κ RX3 cc nL ret R) (pc' : Nat) {a : Nat} {x : Int32} (hs : sh a = some (.inl 3)) (d : decode cc pc = .ok (.putfield 55, 3)) (hp : pc + 3 = pc') (kk : mV Γ Q kc ks n sh P (upd2 D a 14 x) E lv st pc') : mV Γ Q kc ks n sh P D E lv (.int x :: .ref a :: st) pc := V_put (k := 14) (T := TX3) (host := "") h pc' tyX3 tyX3_ok nmX3 qU_X3 rfl rfl (by decide) qF_X3_55 rfl rfl (tyX3_ok 14 (by decide)) rfl rfl hs d hp kk
theorem g_X4_11 (h : mOk Γ κ RX4 cc nL ret R) (pc' : Nat) {a b : Nat} (hs : sh a = some (.inl 4)) (hPa : P a 0 = some b) (d : decode cc pc = .ok (.getfield 11, 3)) (hp : pc + 3 = pc') (kk : mV Γ Q kc ks n sh P D E lv (.ref b :: st) pc') : mV Γ Q kc ks n sh P D E lv (.ref a :: st) pc := V_getr (k := 0) (T := TX4) h pc' qU_X4 rfl rfl (by decide) qF_X4_11 rfl hs hPa d hp kk
theorem p_X4_11 (h : mOk Γ κ RX4 cc nL ret R) (pc' : Nat) {a b : Nat} (hin2 : mInit Γ) (hs : sh a = some (.inl 4)) (d : decode cc pc = .ok (.putfield 11, 3)) (hp : pc + 3 = pc') (kk : mV Γ Q kc ks n sh (updP P a 0 (some b)) D E lv st pc') : mV Γ Q kc ks n sh P D E lv (.ref b :: .ref a :: st) pc := V_putFr (k := 0) (T := TX4) (host := "") h pc' tyX4 tyX4_ok nmX4 qU_X4 rfl rfl (by decide) qF_X4_11 rfl rfl hin2 rfl (tyX4_ok 0 (by decide)) rfl rfl hs d hp kk
theorem g_X4_17 (h : mOk Γ κ RX4 cc nL ret R) (pc' : Nat) {a b : Nat} (hs : sh a = some (.inl 4)) (hPa : P a 1 = some b) (d : decode cc pc = .ok (.getfield 17, 3)) (hp : pc + 3 = pc') (kk : mV Γ Q kc ks n sh P D E lv (.ref b :: st) pc') : mV Γ Q kc ks n sh P D E lv (.ref a :: st) pc := V_getr (k := 1) (T := TX4) h pc' qU_X4 rfl rfl (by decide) qF_X4_17 rfl hs hPa d hp kk
theorem p_X4_17 (h : mOk Γ κ RX4 cc nL ret R) (pc' : Nat) {a b : Nat} (hin2 : mInit Γ) (hs : sh a = some (.inl 4)) (d : decode cc pc = .ok (.putfield 17, 3)) (hp : pc + 3 = pc') (kk : mV Γ Q kc ks n sh (updP P a 1 (some b)) D E lv st pc') : mV Γ Q kc ks n sh P D E lv (.ref b :: .ref a :: st) pc := V_putFr (k := 1) (T := TX4) (host := "") h pc' tyX4 tyX4_ok nmX4 qU_X4 rfl rfl (by decide) qF_X4_17 rfl rfl hin2 rfl (tyX4_ok 1 (by decide)) rfl rfl hs d hp kk
theorem g_X4_24 (h : mOk Γ κ RX4 cc nL ret R) (pc' : Nat) {a b : Nat} (hs : sh a = some (.inl 4)) (hPa : P a 2 = some b) (d : decode cc pc = .ok (.getfield 24, 3)) (hp : pc + 3 = pc') (kk : mV Γ Q kc ks n sh P D E lv (.ref b :: st) pc') : mV Γ Q kc ks n sh P D E lv (.ref a :: st) pc := V_getr (k := 2) (T := TX4) h pc' qU_X4 rfl rfl (by decide) qF_X4_24 rfl hs hPa d hp kk
theorem p_X4_24 (h : mOk Γ κ RX4 cc nL ret R) (pc' : Nat) {a b : Nat} (hin2 : mInit Γ) (hs : sh a = some (.inl 4)) (d : decode cc pc = .ok (.putfield 24, 3)) (hp : pc + 3 = pc') (kk : mV Γ Q kc ks n sh (updP P a 2 (some b)) D E lv st pc') : mV Γ Q kc ks n sh P D E lv (.ref b :: .ref a :: st) pc := V_putFr (k := 2) (T := TX4) (host := "") h pc' tyX4 tyX4_ok nmX4 qU_X4 rfl rfl (by decide) qF_X4_24 rfl rfl hin2 rfl (tyX4_ok 2 (by decide)) rfl rfl hs d hp kk
theorem g_X4_36 (h : mOk Γ κ RX4 cc nL ret R) (pc' : Nat) {a : Nat} (hs : sh a = some (.inl 4)) (d : decode cc pc = .ok (.getfield 36, 3)) (hp : pc + 3 = pc') (kk : mV Γ Q kc ks n sh P D E lv (.int (D a 4) :: st) pc') : mV Γ Q kc ks n sh P D E lv (.ref a :: st) pc := V_get (k := 4) (T := TX4) h pc' qU_X4 rfl rfl (by decide) qF_X4_36 rfl hs d hp kk
theorem p_X4_36 (h : mOk Γ κ RX4 cc nL ret R) (pc' : Nat) {a : Nat} {x : Int32} (hs : sh a = some (.inl 4)) (d : decode cc pc = .ok (.putfield 36, 3)) (hp : pc + 3 = pc') (kk : mV Γ Q kc ks n sh P (upd2 D a 4 x) E lv st pc') : mV Γ Q kc ks n sh P D E lv (.int x :: .ref a :: st) pc := V_put (k := 4) (T := TX4) (host := "") h pc' tyX4 tyX4_ok nmX4 qU_X4 rfl rfl (by decide) qF_X4_36 rfl rfl (tyX4_ok 4 (by decide)) rfl rfl hs d hp kk
theorem gN_X4_43 (h : mOk Γ κ RX4 cc nL ret R) (pc' : Nat) {a : Nat} (hs : sh a = some (.inl 3)) (d : decode cc pc = .ok (.getfield 43, 3)) (hp : pc + 3 = pc') (kk : mV Γ Q kc ks n sh P D E lv (.int (D a 0) :: st) pc') : mV Γ Q kc ks n sh P D E lv (.ref a :: st) pc := V_getN (k := 0) (T := TX3) h pc' qU_X3 rfl rfl (by decide) (List.mem_of_getElem? (i := 8) rfl) rfl hs d hp kk
theorem g_X4_50 (h : mOk Γ κ RX4 cc nL ret R) (pc' : Nat) {a : Nat} (hs : sh a = some (.inl 4)) (d : decode cc pc = .ok (.getfield 50, 3)) (hp : pc + 3 = pc') (kk : mV Γ Q kc ks n sh P D E lv (.int (D a 3) :: st) pc') : mV Γ Q kc ks n sh P D E lv (.ref a :: st) pc := V_get (k := 3) (T := TX4) h pc' qU_X4 rfl rfl (by decide) qF_X4_50 rfl hs d hp kk
theorem p_X4_50 (h : mOk Γ κ RX4 cc nL ret R) (pc' : Nat) {a : Nat} {x : Int32} (hs : sh a = some (.inl 4)) (d : decode cc pc = .ok (.putfield 50, 3)) (hp : pc + 3 = pc') (kk : mV Γ Q kc ks n sh P (upd2 D a 3 x) E lv st pc') : mV Γ Q kc ks n sh P D E lv (.int x :: .ref a :: st) pc := V_put (k := 3) (T := TX4) (host := "") h pc' tyX4 tyX4_ok nmX4 qU_X4 rfl rfl (by decide) qF_X4_50 rfl rfl (tyX4_ok 3 (by decide)) rfl rfl hs d hp kk
theorem gN_X4_53 (h : mOk Γ κ RX4 cc nL ret R) (pc' : Nat) {a : Nat} (hs : sh a = some (.inl 3)) (d : decode cc pc = .ok (.getfield 53, 3)) (hp : pc + 3 = pc') (kk : mV Γ Q kc ks n sh P D E lv (.int (D a 1) :: st) pc') : mV Γ Q kc ks n sh P D E lv (.ref a :: st) pc := V_getN (k := 1) (T := TX3) h pc' qU_X3 rfl rfl (by decide) (List.mem_of_getElem? (i := 10) rfl) rfl hs d hp kk
theorem pN_X4_53 (h : mOk Γ κ RX4 cc nL ret R) (pc' : Nat) {a : Nat} {x : Int32} (hb : x = 0 ∨ x = 1) (hs : sh a = some (.inl 3)) (d : decode cc pc = .ok (.putfield 53, 3)) (hp : pc + 3 = pc') (kk : mV Γ Q kc ks n sh P (upd2 D a 1 x) E lv st pc') : mV Γ Q kc ks n sh P D E lv (.int x :: .ref a :: st) pc := V_putN (k := 1) (T := TX3) h pc' tyX3 tyX3_ok nmX3 qU_X3 rfl rfl (by decide) (List.mem_of_getElem? (i := 10) rfl) rfl rfl (tyX3_ok 1 (by decide)) (by rcases hb with rfl | rfl <;> rfl) (by rcases hb with rfl | rfl <;> rfl) hs d hp kk
theorem gN_X4_65 (h : mOk Γ κ RX4 cc nL ret R) (pc' : Nat) {a : Nat} (hs : sh a = some (.inl 3)) (d : decode cc pc = .ok (.getfield 65, 3)) (hp : pc + 3 = pc') (kk : mV Γ Q kc ks n sh P D E lv (.int (D a 2) :: st) pc') : mV Γ Q kc ks n sh P D E lv (.ref a :: st) pc := V_getN (k := 2) (T := TX3) h pc' qU_X3 rfl rfl (by decide) (List.mem_of_getElem? (i := 13) rfl) rfl hs d hp kk
theorem gN_X4_72 (h : mOk Γ κ RX4 cc nL ret R) (pc' : Nat) {a : Nat} (hs : sh a = some (.inl 3)) (d : decode cc pc = .ok (.getfield 72, 3)) (hp : pc + 3 = pc') (kk : mV Γ Q kc ks n sh P D E lv (.int (D a 3) :: st) pc') : mV Γ Q kc ks n sh P D E lv (.ref a :: st) pc := V_getN (k := 3) (T := TX3) h pc' qU_X3 rfl rfl (by decide) (List.mem_of_getElem? (i := 16) rfl) rfl hs d hp kk
theorem pN_X4_72 (h : mOk Γ κ RX4 cc nL ret R) (pc' : Nat) {a : Nat} {x : Int32} (hs : sh a = some (.inl 3)) (d : decode cc pc = .ok (.putfield 72, 3)) (hp : pc + 3 = pc') (kk : mV Γ Q kc ks n sh P (upd2 D a 3 x) E lv st pc') : mV Γ Q kc ks n sh P D E lv (.int x :: .ref a :: st) pc := V_putN (k := 3) (T := TX3) h pc' tyX3 tyX3_ok nmX3 qU_X3 rfl rfl (by decide) (List.mem_of_getElem? (i := 16) rfl) rfl rfl (tyX3_ok 3 (by decide)) rfl rfl hs d hp kk
theorem gN_X4_85 (h : mOk Γ κ RX4 cc nL ret R) (pc' : Nat) {a : Nat} (hs : sh a = some (.inl 3)) (d : decode cc pc = .ok (.getfield 85, 3)) (hp : pc + 3 = pc') (kk : mV Γ Q kc ks n sh P D E lv (.int (D a 14) :: st) pc') : mV Γ Q kc ks n sh P D E lv (.ref a :: st) pc := V_getN (k := 14) (T := TX3) h pc' qU_X3 rfl rfl (by decide) (List.mem_of_getElem? (i := 29) rfl) rfl hs d hp kk
theorem g_L_14 (h : mOk Γ κ RL cc nL ret R) (pc' : Nat) {a b : Nat} (hs : sh a = some (.inl 6)) (hPa : P a 0 = some b) (d : decode cc pc = .ok (.getfield 14, 3)) (hp : pc + 3 = pc') (kk : mV Γ Q kc ks n sh P D E lv (.ref b :: st) pc') : mV Γ Q kc ks n sh P D E lv (.ref a :: st) pc := V_getr (k := 0) (T := TX6) h pc' qU_X6 rfl rfl (by decide) qF_L_14 rfl hs hPa d hp kk
theorem g_X6_10 (h : mOk Γ κ RX6 cc nL ret R) (pc' : Nat) {a b : Nat} (hs : sh a = some (.inl 6)) (hPa : P a 0 = some b) (d : decode cc pc = .ok (.getfield 10, 3)) (hp : pc + 3 = pc') (kk : mV Γ Q kc ks n sh P D E lv (.ref b :: st) pc') : mV Γ Q kc ks n sh P D E lv (.ref a :: st) pc := V_getr (k := 0) (T := TX6) h pc' qU_X6 rfl rfl (by decide) qF_X6_10 rfl hs hPa d hp kk
theorem p_X6_10 (h : mOk Γ κ RX6 cc nL ret R) (pc' : Nat) {a b : Nat} (hin2 : mInit Γ) (hs : sh a = some (.inl 6)) (d : decode cc pc = .ok (.putfield 10, 3)) (hp : pc + 3 = pc') (kk : mV Γ Q kc ks n sh (updP P a 0 (some b)) D E lv st pc') : mV Γ Q kc ks n sh P D E lv (.ref b :: .ref a :: st) pc := V_putFr (k := 0) (T := TX6) (host := "") h pc' tyX6 tyX6_ok nmX6 qU_X6 rfl rfl (by decide) qF_X6_10 rfl rfl hin2 rfl (tyX6_ok 0 (by decide)) rfl rfl hs d hp kk
theorem g_X6_18 (h : mOk Γ κ RX6 cc nL ret R) (pc' : Nat) {a b : Nat} (hs : sh a = some (.inl 6)) (hPa : P a 3 = some b) (d : decode cc pc = .ok (.getfield 18, 3)) (hp : pc + 3 = pc') (kk : mV Γ Q kc ks n sh P D E lv (.ref b :: st) pc') : mV Γ Q kc ks n sh P D E lv (.ref a :: st) pc := V_getr (k := 3) (T := TX6) h pc' qU_X6 rfl rfl (by decide) qF_X6_18 rfl hs hPa d hp kk
theorem p_X6_18 (h : mOk Γ κ RX6 cc nL ret R) (pc' : Nat) {a b : Nat} (hin2 : mInit Γ) (hs : sh a = some (.inl 6)) (d : decode cc pc = .ok (.putfield 18, 3)) (hp : pc + 3 = pc') (kk : mV Γ Q kc ks n sh (updP P a 3 (some b)) D E lv st pc') : mV Γ Q kc ks n sh P D E lv (.ref b :: .ref a :: st) pc := V_putFr (k := 3) (T := TX6) (host := "") h pc' tyX6 tyX6_ok nmX6 qU_X6 rfl rfl (by decide) qF_X6_18 rfl rfl hin2 rfl (tyX6_ok 3 (by decide)) rfl rfl hs d hp kk
theorem g_X6_21 (h : mOk Γ κ RX6 cc nL ret R) (pc' : Nat) {a b : Nat} (hs : sh a = some (.inl 6)) (hPa : P a 5 = some b) (d : decode cc pc = .ok (.getfield 21, 3)) (hp : pc + 3 = pc') (kk : mV Γ Q kc ks n sh P D E lv (.ref b :: st) pc') : mV Γ Q kc ks n sh P D E lv (.ref a :: st) pc := V_getr (k := 5) (T := TX6) h pc' qU_X6 rfl rfl (by decide) qF_X6_21 rfl hs hPa d hp kk
theorem p_X6_21 (h : mOk Γ κ RX6 cc nL ret R) (pc' : Nat) {a b : Nat} (hs : sh a = some (.inl 6)) (d : decode cc pc = .ok (.putfield 21, 3)) (hp : pc + 3 = pc') (kk : mV Γ Q kc ks n sh (updP P a 5 (some b)) D E lv st pc') : mV Γ Q kc ks n sh P D E lv (.ref b :: .ref a :: st) pc := V_putr (k := 5) (T := TX6) (host := "") h pc' tyX6 tyX6_ok nmX6 qU_X6 rfl rfl (by decide) qF_X6_21 rfl rfl (tyX6_ok 5 (by decide)) rfl rfl hs d hp kk
theorem p_X6_25 (h : mOk Γ κ RX6 cc nL ret R) (pc' : Nat) {a b : Nat} (hin2 : mInit Γ) (hs : sh a = some (.inl 6)) (d : decode cc pc = .ok (.putfield 25, 3)) (hp : pc + 3 = pc') (kk : mV Γ Q kc ks n sh (updP P a 6 (some b)) D E lv st pc') : mV Γ Q kc ks n sh P D E lv (.ref b :: .ref a :: st) pc := V_putFr (k := 6) (T := TX6) (host := "") h pc' tyX6 tyX6_ok nmX6 qU_X6 rfl rfl (by decide) qF_X6_25 rfl rfl hin2 rfl (tyX6_ok 6 (by decide)) rfl rfl hs d hp kk
theorem p_X6_28 (h : mOk Γ κ RX6 cc nL ret R) (pc' : Nat) {a b : Nat} (hin2 : mInit Γ) (hs : sh a = some (.inl 6)) (d : decode cc pc = .ok (.putfield 28, 3)) (hp : pc + 3 = pc') (kk : mV Γ Q kc ks n sh (updP P a 7 (some b)) D E lv st pc') : mV Γ Q kc ks n sh P D E lv (.ref b :: .ref a :: st) pc := V_putFr (k := 7) (T := TX6) (host := "") h pc' tyX6 tyX6_ok nmX6 qU_X6 rfl rfl (by decide) qF_X6_28 rfl rfl hin2 rfl (tyX6_ok 7 (by decide)) rfl rfl hs d hp kk
theorem p_X6_32 (h : mOk Γ κ RX6 cc nL ret R) (pc' : Nat) {a b : Nat} (hs : sh a = some (.inl 6)) (d : decode cc pc = .ok (.putfield 32, 3)) (hp : pc + 3 = pc') (kk : mV Γ Q kc ks n sh (updP P a 8 (some b)) D E lv st pc') : mV Γ Q kc ks n sh P D E lv (.ref b :: .ref a :: st) pc := V_putr (k := 8) (T := TX6) (host := "") h pc' tyX6 tyX6_ok nmX6 qU_X6 rfl rfl (by decide) qF_X6_32 rfl rfl (tyX6_ok 8 (by decide)) rfl rfl hs d hp kk
theorem p_X6_35 (h : mOk Γ κ RX6 cc nL ret R) (pc' : Nat) {a b : Nat} (hs : sh a = some (.inl 6)) (d : decode cc pc = .ok (.putfield 35, 3)) (hp : pc + 3 = pc') (kk : mV Γ Q kc ks n sh (updP P a 9 (some b)) D E lv st pc') : mV Γ Q kc ks n sh P D E lv (.ref b :: .ref a :: st) pc := V_putr (k := 9) (T := TX6) (host := "") h pc' tyX6 tyX6_ok nmX6 qU_X6 rfl rfl (by decide) qF_X6_35 rfl rfl (tyX6_ok 9 (by decide)) rfl rfl hs d hp kk
theorem p_X6_38 (h : mOk Γ κ RX6 cc nL ret R) (pc' : Nat) {a : Nat} {x : Int32} (hs : sh a = some (.inl 6)) (d : decode cc pc = .ok (.putfield 38, 3)) (hp : pc + 3 = pc') (kk : mV Γ Q kc ks n sh P (upd2 D a 11 x) E lv st pc') : mV Γ Q kc ks n sh P D E lv (.int x :: .ref a :: st) pc := V_put (k := 11) (T := TX6) (host := "") h pc' tyX6 tyX6_ok nmX6 qU_X6 rfl rfl (by decide) qF_X6_38 rfl rfl (tyX6_ok 11 (by decide)) rfl rfl hs d hp kk
theorem p_X6_42 (h : mOk Γ κ RX6 cc nL ret R) (pc' : Nat) {a : Nat} {x : Int32} (hs : sh a = some (.inl 6)) (d : decode cc pc = .ok (.putfield 42, 3)) (hp : pc + 3 = pc') (kk : mV Γ Q kc ks n sh P (upd2 D a 12 x) E lv st pc') : mV Γ Q kc ks n sh P D E lv (.int x :: .ref a :: st) pc := V_put (k := 12) (T := TX6) (host := "") h pc' tyX6 tyX6_ok nmX6 qU_X6 rfl rfl (by decide) qF_X6_42 rfl rfl (tyX6_ok 12 (by decide)) rfl rfl hs d hp kk
theorem g_X6_45 (h : mOk Γ κ RX6 cc nL ret R) (pc' : Nat) {a b : Nat} (hs : sh a = some (.inl 6)) (hPa : P a 1 = some b) (d : decode cc pc = .ok (.getfield 45, 3)) (hp : pc + 3 = pc') (kk : mV Γ Q kc ks n sh P D E lv (.ref b :: st) pc') : mV Γ Q kc ks n sh P D E lv (.ref a :: st) pc := V_getr (k := 1) (T := TX6) h pc' qU_X6 rfl rfl (by decide) qF_X6_45 rfl hs hPa d hp kk
theorem p_X6_45 (h : mOk Γ κ RX6 cc nL ret R) (pc' : Nat) {a b : Nat} (hin2 : mInit Γ) (hs : sh a = some (.inl 6)) (d : decode cc pc = .ok (.putfield 45, 3)) (hp : pc + 3 = pc') (kk : mV Γ Q kc ks n sh (updP P a 1 (some b)) D E lv st pc') : mV Γ Q kc ks n sh P D E lv (.ref b :: .ref a :: st) pc := V_putFr (k := 1) (T := TX6) (host := "") h pc' tyX6 tyX6_ok nmX6 qU_X6 rfl rfl (by decide) qF_X6_45 rfl rfl hin2 rfl (tyX6_ok 1 (by decide)) rfl rfl hs d hp kk
theorem g_X6_48 (h : mOk Γ κ RX6 cc nL ret R) (pc' : Nat) {a : Nat} (hs : sh a = some (.inl 6)) (d : decode cc pc = .ok (.getfield 48, 3)) (hp : pc + 3 = pc') (kk : mV Γ Q kc ks n sh P D E lv (.int (D a 2) :: st) pc') : mV Γ Q kc ks n sh P D E lv (.ref a :: st) pc := V_get (k := 2) (T := TX6) h pc' qU_X6 rfl rfl (by decide) qF_X6_48 rfl hs d hp kk
theorem p_X6_48 (h : mOk Γ κ RX6 cc nL ret R) (pc' : Nat) {a : Nat} {x : Int32} (hs : sh a = some (.inl 6)) (d : decode cc pc = .ok (.putfield 48, 3)) (hp : pc + 3 = pc') (kk : mV Γ Q kc ks n sh P (upd2 D a 2 x) E lv st pc') : mV Γ Q kc ks n sh P D E lv (.int x :: .ref a :: st) pc := V_put (k := 2) (T := TX6) (host := "") h pc' tyX6 tyX6_ok nmX6 qU_X6 rfl rfl (by decide) qF_X6_48 rfl rfl (tyX6_ok 2 (by decide)) rfl rfl hs d hp kk
theorem g_X6_67 (h : mOk Γ κ RX6 cc nL ret R) (pc' : Nat) {a : Nat} (hs : sh a = some (.inl 6)) (d : decode cc pc = .ok (.getfield 67, 3)) (hp : pc + 3 = pc') (kk : mV Γ Q kc ks n sh P D E lv (.int (D a 4) :: st) pc') : mV Γ Q kc ks n sh P D E lv (.ref a :: st) pc := V_get (k := 4) (T := TX6) h pc' qU_X6 rfl rfl (by decide) qF_X6_67 rfl hs d hp kk
theorem p_X6_67 (h : mOk Γ κ RX6 cc nL ret R) (pc' : Nat) {a : Nat} {x : Int32} (hs : sh a = some (.inl 6)) (d : decode cc pc = .ok (.putfield 67, 3)) (hp : pc + 3 = pc') (kk : mV Γ Q kc ks n sh P (upd2 D a 4 x) E lv st pc') : mV Γ Q kc ks n sh P D E lv (.int x :: .ref a :: st) pc := V_put (k := 4) (T := TX6) (host := "") h pc' tyX6 tyX6_ok nmX6 qU_X6 rfl rfl (by decide) qF_X6_67 rfl rfl (tyX6_ok 4 (by decide)) rfl rfl hs d hp kk
end ML
theorem hd_L_all : yL_all.cls ≠ "java/lang/invoke/MethodHandle" ∧ yL_all.cls ≠ "java/lang/invoke/VarHandle" ∧ (parseMethodDescriptor yL_all.desc).map (fun d => d.parameters.length) = some 3 := by decide +kernel
theorem hd_L_below : yL_below.cls ≠ "java/lang/invoke/MethodHandle" ∧ yL_below.cls ≠ "java/lang/invoke/VarHandle" ∧ (parseMethodDescriptor yL_below.desc).map (fun d => d.parameters.length) = some 2 := by decide +kernel
theorem hd_L_cell : yL_cell.cls ≠ "java/lang/invoke/MethodHandle" ∧ yL_cell.cls ≠ "java/lang/invoke/VarHandle" ∧ (parseMethodDescriptor yL_cell.desc).map (fun d => d.parameters.length) = some 2 := by decide +kernel
theorem hd_L_isBest : yL_isBest.cls ≠ "java/lang/invoke/MethodHandle" ∧ yL_isBest.cls ≠ "java/lang/invoke/VarHandle" ∧ (parseMethodDescriptor yL_isBest.desc).map (fun d => d.parameters.length) = some 2 := by decide +kernel
theorem hd_L_law : yL_law.cls ≠ "java/lang/invoke/MethodHandle" ∧ yL_law.cls ≠ "java/lang/invoke/VarHandle" ∧ (parseMethodDescriptor yL_law.desc).map (fun d => d.parameters.length) = some 1 := by decide +kernel
theorem hd_X0_addMud : yX0_addMud.cls ≠ "java/lang/invoke/MethodHandle" ∧ yX0_addMud.cls ≠ "java/lang/invoke/VarHandle" ∧ (parseMethodDescriptor yX0_addMud.desc).map (fun d => d.parameters.length) = some 1 := by decide +kernel
theorem hd_X0_becomeLike : yX0_becomeLike.cls ≠ "java/lang/invoke/MethodHandle" ∧ yX0_becomeLike.cls ≠ "java/lang/invoke/VarHandle" ∧ (parseMethodDescriptor yX0_becomeLike.desc).map (fun d => d.parameters.length) = some 1 := by decide +kernel
theorem hd_X0_flow : yX0_flow.cls ≠ "java/lang/invoke/MethodHandle" ∧ yX0_flow.cls ≠ "java/lang/invoke/VarHandle" ∧ (parseMethodDescriptor yX0_flow.desc).map (fun d => d.parameters.length) = some 0 := by decide +kernel
theorem hd_X0_init : yX0_init.cls ≠ "java/lang/invoke/MethodHandle" ∧ yX0_init.cls ≠ "java/lang/invoke/VarHandle" ∧ (parseMethodDescriptor yX0_init.desc).map (fun d => d.parameters.length) = some 0 := by decide +kernel
theorem hd_X0_letDayGoBy : yX0_letDayGoBy.cls ≠ "java/lang/invoke/MethodHandle" ∧ yX0_letDayGoBy.cls ≠ "java/lang/invoke/VarHandle" ∧ (parseMethodDescriptor yX0_letDayGoBy.desc).map (fun d => d.parameters.length) = some 2 := by decide +kernel
theorem hd_X1_add : yX1_add.cls ≠ "java/lang/invoke/MethodHandle" ∧ yX1_add.cls ≠ "java/lang/invoke/VarHandle" ∧ (parseMethodDescriptor yX1_add.desc).map (fun d => d.parameters.length) = some 4 := by decide +kernel
theorem hd_X1_amountOf : yX1_amountOf.cls ≠ "java/lang/invoke/MethodHandle" ∧ yX1_amountOf.cls ≠ "java/lang/invoke/VarHandle" ∧ (parseMethodDescriptor yX1_amountOf.desc).map (fun d => d.parameters.length) = some 2 := by decide +kernel
theorem hd_X1_becomeLike : yX1_becomeLike.cls ≠ "java/lang/invoke/MethodHandle" ∧ yX1_becomeLike.cls ≠ "java/lang/invoke/VarHandle" ∧ (parseMethodDescriptor yX1_becomeLike.desc).map (fun d => d.parameters.length) = some 1 := by decide +kernel
theorem hd_X1_clear : yX1_clear.cls ≠ "java/lang/invoke/MethodHandle" ∧ yX1_clear.cls ≠ "java/lang/invoke/VarHandle" ∧ (parseMethodDescriptor yX1_clear.desc).map (fun d => d.parameters.length) = some 0 := by decide +kernel
theorem hd_X1_count : yX1_count.cls ≠ "java/lang/invoke/MethodHandle" ∧ yX1_count.cls ≠ "java/lang/invoke/VarHandle" ∧ (parseMethodDescriptor yX1_count.desc).map (fun d => d.parameters.length) = some 0 := by decide +kernel
theorem hd_X1_get : yX1_get.cls ≠ "java/lang/invoke/MethodHandle" ∧ yX1_get.cls ≠ "java/lang/invoke/VarHandle" ∧ (parseMethodDescriptor yX1_get.desc).map (fun d => d.parameters.length) = some 2 := by decide +kernel
theorem hd_X1_init : yX1_init.cls ≠ "java/lang/invoke/MethodHandle" ∧ yX1_init.cls ≠ "java/lang/invoke/VarHandle" ∧ (parseMethodDescriptor yX1_init.desc).map (fun d => d.parameters.length) = some 0 := by decide +kernel
theorem hd_X1_isFull : yX1_isFull.cls ≠ "java/lang/invoke/MethodHandle" ∧ yX1_isFull.cls ≠ "java/lang/invoke/VarHandle" ∧ (parseMethodDescriptor yX1_isFull.desc).map (fun d => d.parameters.length) = some 0 := by decide +kernel
theorem hd_X1_moveTo : yX1_moveTo.cls ≠ "java/lang/invoke/MethodHandle" ∧ yX1_moveTo.cls ≠ "java/lang/invoke/VarHandle" ∧ (parseMethodDescriptor yX1_moveTo.desc).map (fun d => d.parameters.length) = some 2 := by decide +kernel
theorem hd_X1_set : yX1_set.cls ≠ "java/lang/invoke/MethodHandle" ∧ yX1_set.cls ≠ "java/lang/invoke/VarHandle" ∧ (parseMethodDescriptor yX1_set.desc).map (fun d => d.parameters.length) = some 3 := by decide +kernel
theorem hd_X1_shorten : yX1_shorten.cls ≠ "java/lang/invoke/MethodHandle" ∧ yX1_shorten.cls ≠ "java/lang/invoke/VarHandle" ∧ (parseMethodDescriptor yX1_shorten.desc).map (fun d => d.parameters.length) = some 0 := by decide +kernel
theorem hd_X2_askAll : yX2_askAll.cls ≠ "java/lang/invoke/MethodHandle" ∧ yX2_askAll.cls ≠ "java/lang/invoke/VarHandle" ∧ (parseMethodDescriptor yX2_askAll.desc).map (fun d => d.parameters.length) = some 1 := by decide +kernel
theorem hd_X2_askOwner : yX2_askOwner.cls ≠ "java/lang/invoke/MethodHandle" ∧ yX2_askOwner.cls ≠ "java/lang/invoke/VarHandle" ∧ (parseMethodDescriptor yX2_askOwner.desc).map (fun d => d.parameters.length) = some 2 := by decide +kernel
theorem hd_X2_becomeLike : yX2_becomeLike.cls ≠ "java/lang/invoke/MethodHandle" ∧ yX2_becomeLike.cls ≠ "java/lang/invoke/VarHandle" ∧ (parseMethodDescriptor yX2_becomeLike.desc).map (fun d => d.parameters.length) = some 1 := by decide +kernel
theorem hd_X2_bowlsOfDay : yX2_bowlsOfDay.cls ≠ "java/lang/invoke/MethodHandle" ∧ yX2_bowlsOfDay.cls ≠ "java/lang/invoke/VarHandle" ∧ (parseMethodDescriptor yX2_bowlsOfDay.desc).map (fun d => d.parameters.length) = some 3 := by decide +kernel
theorem hd_X2_date : yX2_date.cls ≠ "java/lang/invoke/MethodHandle" ∧ yX2_date.cls ≠ "java/lang/invoke/VarHandle" ∧ (parseMethodDescriptor yX2_date.desc).map (fun d => d.parameters.length) = some 0 := by decide +kernel
theorem hd_X2_daysToHarvest : yX2_daysToHarvest.cls ≠ "java/lang/invoke/MethodHandle" ∧ yX2_daysToHarvest.cls ≠ "java/lang/invoke/VarHandle" ∧ (parseMethodDescriptor yX2_daysToHarvest.desc).map (fun d => d.parameters.length) = some 0 := by decide +kernel
theorem hd_X2_deliverSales : yX2_deliverSales.cls ≠ "java/lang/invoke/MethodHandle" ∧ yX2_deliverSales.cls ≠ "java/lang/invoke/VarHandle" ∧ (parseMethodDescriptor yX2_deliverSales.desc).map (fun d => d.parameters.length) = some 0 := by decide +kernel
theorem hd_X2_giveLentWater : yX2_giveLentWater.cls ≠ "java/lang/invoke/MethodHandle" ∧ yX2_giveLentWater.cls ≠ "java/lang/invoke/VarHandle" ∧ (parseMethodDescriptor yX2_giveLentWater.desc).map (fun d => d.parameters.length) = some 4 := by decide +kernel
theorem hd_X2_giveWater : yX2_giveWater.cls ≠ "java/lang/invoke/MethodHandle" ∧ yX2_giveWater.cls ≠ "java/lang/invoke/VarHandle" ∧ (parseMethodDescriptor yX2_giveWater.desc).map (fun d => d.parameters.length) = some 0 := by decide +kernel
theorem hd_X2_init : yX2_init.cls ≠ "java/lang/invoke/MethodHandle" ∧ yX2_init.cls ≠ "java/lang/invoke/VarHandle" ∧ (parseMethodDescriptor yX2_init.desc).map (fun d => d.parameters.length) = some 0 := by decide +kernel
theorem hd_X2_letDayGoBy : yX2_letDayGoBy.cls ≠ "java/lang/invoke/MethodHandle" ∧ yX2_letDayGoBy.cls ≠ "java/lang/invoke/VarHandle" ∧ (parseMethodDescriptor yX2_letDayGoBy.desc).map (fun d => d.parameters.length) = some 1 := by decide +kernel
theorem hd_X2_letDaysGoBy : yX2_letDaysGoBy.cls ≠ "java/lang/invoke/MethodHandle" ∧ yX2_letDaysGoBy.cls ≠ "java/lang/invoke/VarHandle" ∧ (parseMethodDescriptor yX2_letDaysGoBy.desc).map (fun d => d.parameters.length) = some 2 := by decide +kernel
theorem hd_X2_unlentBowls : yX2_unlentBowls.cls ≠ "java/lang/invoke/MethodHandle" ∧ yX2_unlentBowls.cls ≠ "java/lang/invoke/VarHandle" ∧ (parseMethodDescriptor yX2_unlentBowls.desc).map (fun d => d.parameters.length) = some 1 := by decide +kernel
theorem hd_X2_userOf : yX2_userOf.cls ≠ "java/lang/invoke/MethodHandle" ∧ yX2_userOf.cls ≠ "java/lang/invoke/VarHandle" ∧ (parseMethodDescriptor yX2_userOf.desc).map (fun d => d.parameters.length) = some 1 := by decide +kernel
theorem hd_X3_becomeLike : yX3_becomeLike.cls ≠ "java/lang/invoke/MethodHandle" ∧ yX3_becomeLike.cls ≠ "java/lang/invoke/VarHandle" ∧ (parseMethodDescriptor yX3_becomeLike.desc).map (fun d => d.parameters.length) = some 1 := by decide +kernel
theorem hd_X3_growPalms : yX3_growPalms.cls ≠ "java/lang/invoke/MethodHandle" ∧ yX3_growPalms.cls ≠ "java/lang/invoke/VarHandle" ∧ (parseMethodDescriptor yX3_growPalms.desc).map (fun d => d.parameters.length) = some 1 := by decide +kernel
theorem hd_X3_init : yX3_init.cls ≠ "java/lang/invoke/MethodHandle" ∧ yX3_init.cls ≠ "java/lang/invoke/VarHandle" ∧ (parseMethodDescriptor yX3_init.desc).map (fun d => d.parameters.length) = some 1 := by decide +kernel
theorem hd_X3_payTo : yX3_payTo.cls ≠ "java/lang/invoke/MethodHandle" ∧ yX3_payTo.cls ≠ "java/lang/invoke/VarHandle" ∧ (parseMethodDescriptor yX3_payTo.desc).map (fun d => d.parameters.length) = some 2 := by decide +kernel
theorem hd_X3_pollenPalms : yX3_pollenPalms.cls ≠ "java/lang/invoke/MethodHandle" ∧ yX3_pollenPalms.cls ≠ "java/lang/invoke/VarHandle" ∧ (parseMethodDescriptor yX3_pollenPalms.desc).map (fun d => d.parameters.length) = some 0 := by decide +kernel
theorem hd_X3_reap : yX3_reap.cls ≠ "java/lang/invoke/MethodHandle" ∧ yX3_reap.cls ≠ "java/lang/invoke/VarHandle" ∧ (parseMethodDescriptor yX3_reap.desc).map (fun d => d.parameters.length) = some 0 := by decide +kernel
theorem hd_X3_settle : yX3_settle.cls ≠ "java/lang/invoke/MethodHandle" ∧ yX3_settle.cls ≠ "java/lang/invoke/VarHandle" ∧ (parseMethodDescriptor yX3_settle.desc).map (fun d => d.parameters.length) = some 4 := by decide +kernel
theorem hd_X3_takeFlowing : yX3_takeFlowing.cls ≠ "java/lang/invoke/MethodHandle" ∧ yX3_takeFlowing.cls ≠ "java/lang/invoke/VarHandle" ∧ (parseMethodDescriptor yX3_takeFlowing.desc).map (fun d => d.parameters.length) = some 1 := by decide +kernel
theorem hd_X4_addLast : yX4_addLast.cls ≠ "java/lang/invoke/MethodHandle" ∧ yX4_addLast.cls ≠ "java/lang/invoke/VarHandle" ∧ (parseMethodDescriptor yX4_addLast.desc).map (fun d => d.parameters.length) = some 4 := by decide +kernel
theorem hd_X4_becomeLike : yX4_becomeLike.cls ≠ "java/lang/invoke/MethodHandle" ∧ yX4_becomeLike.cls ≠ "java/lang/invoke/VarHandle" ∧ (parseMethodDescriptor yX4_becomeLike.desc).map (fun d => d.parameters.length) = some 1 := by decide +kernel
theorem hd_X4_commonBowls : yX4_commonBowls.cls ≠ "java/lang/invoke/MethodHandle" ∧ yX4_commonBowls.cls ≠ "java/lang/invoke/VarHandle" ∧ (parseMethodDescriptor yX4_commonBowls.desc).map (fun d => d.parameters.length) = some 0 := by decide +kernel
theorem hd_X4_countEver : yX4_countEver.cls ≠ "java/lang/invoke/MethodHandle" ∧ yX4_countEver.cls ≠ "java/lang/invoke/VarHandle" ∧ (parseMethodDescriptor yX4_countEver.desc).map (fun d => d.parameters.length) = some 0 := by decide +kernel
theorem hd_X4_countLiving : yX4_countLiving.cls ≠ "java/lang/invoke/MethodHandle" ∧ yX4_countLiving.cls ≠ "java/lang/invoke/VarHandle" ∧ (parseMethodDescriptor yX4_countLiving.desc).map (fun d => d.parameters.length) = some 0 := by decide +kernel
theorem hd_X4_firstBowl : yX4_firstBowl.cls ≠ "java/lang/invoke/MethodHandle" ∧ yX4_firstBowl.cls ≠ "java/lang/invoke/VarHandle" ∧ (parseMethodDescriptor yX4_firstBowl.desc).map (fun d => d.parameters.length) = some 1 := by decide +kernel
theorem hd_X4_growPalms : yX4_growPalms.cls ≠ "java/lang/invoke/MethodHandle" ∧ yX4_growPalms.cls ≠ "java/lang/invoke/VarHandle" ∧ (parseMethodDescriptor yX4_growPalms.desc).map (fun d => d.parameters.length) = some 1 := by decide +kernel
theorem hd_X4_hasRoomFor : yX4_hasRoomFor.cls ≠ "java/lang/invoke/MethodHandle" ∧ yX4_hasRoomFor.cls ≠ "java/lang/invoke/VarHandle" ∧ (parseMethodDescriptor yX4_hasRoomFor.desc).map (fun d => d.parameters.length) = some 1 := by decide +kernel
theorem hd_X4_holderOf : yX4_holderOf.cls ≠ "java/lang/invoke/MethodHandle" ∧ yX4_holderOf.cls ≠ "java/lang/invoke/VarHandle" ∧ (parseMethodDescriptor yX4_holderOf.desc).map (fun d => d.parameters.length) = some 1 := by decide +kernel
theorem hd_X4_init : yX4_init.cls ≠ "java/lang/invoke/MethodHandle" ∧ yX4_init.cls ≠ "java/lang/invoke/VarHandle" ∧ (parseMethodDescriptor yX4_init.desc).map (fun d => d.parameters.length) = some 0 := by decide +kernel
theorem hd_X4_isLiving : yX4_isLiving.cls ≠ "java/lang/invoke/MethodHandle" ∧ yX4_isLiving.cls ≠ "java/lang/invoke/VarHandle" ∧ (parseMethodDescriptor yX4_isLiving.desc).map (fun d => d.parameters.length) = some 1 := by decide +kernel
theorem hd_X4_numbered : yX4_numbered.cls ≠ "java/lang/invoke/MethodHandle" ∧ yX4_numbered.cls ≠ "java/lang/invoke/VarHandle" ∧ (parseMethodDescriptor yX4_numbered.desc).map (fun d => d.parameters.length) = some 1 := by decide +kernel
theorem hd_X4_ownedBowls : yX4_ownedBowls.cls ≠ "java/lang/invoke/MethodHandle" ∧ yX4_ownedBowls.cls ≠ "java/lang/invoke/VarHandle" ∧ (parseMethodDescriptor yX4_ownedBowls.desc).map (fun d => d.parameters.length) = some 0 := by decide +kernel
theorem hd_X4_placeOf : yX4_placeOf.cls ≠ "java/lang/invoke/MethodHandle" ∧ yX4_placeOf.cls ≠ "java/lang/invoke/VarHandle" ∧ (parseMethodDescriptor yX4_placeOf.desc).map (fun d => d.parameters.length) = some 1 := by decide +kernel
theorem hd_X4_putAt : yX4_putAt.cls ≠ "java/lang/invoke/MethodHandle" ∧ yX4_putAt.cls ≠ "java/lang/invoke/VarHandle" ∧ (parseMethodDescriptor yX4_putAt.desc).map (fun d => d.parameters.length) = some 2 := by decide +kernel
theorem hd_X4_reap : yX4_reap.cls ≠ "java/lang/invoke/MethodHandle" ∧ yX4_reap.cls ≠ "java/lang/invoke/VarHandle" ∧ (parseMethodDescriptor yX4_reap.desc).map (fun d => d.parameters.length) = some 0 := by decide +kernel
theorem hd_X4_shareCost : yX4_shareCost.cls ≠ "java/lang/invoke/MethodHandle" ∧ yX4_shareCost.cls ≠ "java/lang/invoke/VarHandle" ∧ (parseMethodDescriptor yX4_shareCost.desc).map (fun d => d.parameters.length) = some 1 := by decide +kernel
theorem hd_X4_standing : yX4_standing.cls ≠ "java/lang/invoke/MethodHandle" ∧ yX4_standing.cls ≠ "java/lang/invoke/VarHandle" ∧ (parseMethodDescriptor yX4_standing.desc).map (fun d => d.parameters.length) = some 1 := by decide +kernel
theorem hd_X4_sumOfCoins : yX4_sumOfCoins.cls ≠ "java/lang/invoke/MethodHandle" ∧ yX4_sumOfCoins.cls ≠ "java/lang/invoke/VarHandle" ∧ (parseMethodDescriptor yX4_sumOfCoins.desc).map (fun d => d.parameters.length) = some 0 := by decide +kernel
theorem hd_X5_bestDig : yX5_bestDig.cls ≠ "java/lang/invoke/MethodHandle" ∧ yX5_bestDig.cls ≠ "java/lang/invoke/VarHandle" ∧ (parseMethodDescriptor yX5_bestDig.desc).map (fun d => d.parameters.length) = some 2 := by decide +kernel
theorem hd_X5_cameUntilLater : yX5_cameUntilLater.cls ≠ "java/lang/invoke/MethodHandle" ∧ yX5_cameUntilLater.cls ≠ "java/lang/invoke/VarHandle" ∧ (parseMethodDescriptor yX5_cameUntilLater.desc).map (fun d => d.parameters.length) = some 1 := by decide +kernel
theorem hd_X5_dig : yX5_dig.cls ≠ "java/lang/invoke/MethodHandle" ∧ yX5_dig.cls ≠ "java/lang/invoke/VarHandle" ∧ (parseMethodDescriptor yX5_dig.desc).map (fun d => d.parameters.length) = some 1 := by decide +kernel
theorem hd_X5_digest : yX5_digest.cls ≠ "java/lang/invoke/MethodHandle" ∧ yX5_digest.cls ≠ "java/lang/invoke/VarHandle" ∧ (parseMethodDescriptor yX5_digest.desc).map (fun d => d.parameters.length) = some 0 := by decide +kernel
theorem hd_X5_digestOwners : yX5_digestOwners.cls ≠ "java/lang/invoke/MethodHandle" ∧ yX5_digestOwners.cls ≠ "java/lang/invoke/VarHandle" ∧ (parseMethodDescriptor yX5_digestOwners.desc).map (fun d => d.parameters.length) = some 1 := by decide +kernel
theorem hd_X5_imagineHarvest : yX5_imagineHarvest.cls ≠ "java/lang/invoke/MethodHandle" ∧ yX5_imagineHarvest.cls ≠ "java/lang/invoke/VarHandle" ∧ (parseMethodDescriptor yX5_imagineHarvest.desc).map (fun d => d.parameters.length) = some 1 := by decide +kernel
theorem hd_X5_imagineLater : yX5_imagineLater.cls ≠ "java/lang/invoke/MethodHandle" ∧ yX5_imagineLater.cls ≠ "java/lang/invoke/VarHandle" ∧ (parseMethodDescriptor yX5_imagineLater.desc).map (fun d => d.parameters.length) = some 2 := by decide +kernel
theorem hd_X5_init : yX5_init.cls ≠ "java/lang/invoke/MethodHandle" ∧ yX5_init.cls ≠ "java/lang/invoke/VarHandle" ∧ (parseMethodDescriptor yX5_init.desc).map (fun d => d.parameters.length) = some 0 := by decide +kernel
theorem hd_X5_isWithin : yX5_isWithin.cls ≠ "java/lang/invoke/MethodHandle" ∧ yX5_isWithin.cls ≠ "java/lang/invoke/VarHandle" ∧ (parseMethodDescriptor yX5_isWithin.desc).map (fun d => d.parameters.length) = some 3 := by decide +kernel
theorem hd_X5_lend : yX5_lend.cls ≠ "java/lang/invoke/MethodHandle" ∧ yX5_lend.cls ≠ "java/lang/invoke/VarHandle" ∧ (parseMethodDescriptor yX5_lend.desc).map (fun d => d.parameters.length) = some 4 := by decide +kernel
theorem hd_X5_many : yX5_many.cls ≠ "java/lang/invoke/MethodHandle" ∧ yX5_many.cls ≠ "java/lang/invoke/VarHandle" ∧ (parseMethodDescriptor yX5_many.desc).map (fun d => d.parameters.length) = some 1 := by decide +kernel
theorem hd_X5_mustBePossible : yX5_mustBePossible.cls ≠ "java/lang/invoke/MethodHandle" ∧ yX5_mustBePossible.cls ≠ "java/lang/invoke/VarHandle" ∧ (parseMethodDescriptor yX5_mustBePossible.desc).map (fun d => d.parameters.length) = some 1 := by decide +kernel
theorem hd_X5_mustBeRight : yX5_mustBeRight.cls ≠ "java/lang/invoke/MethodHandle" ∧ yX5_mustBeRight.cls ≠ "java/lang/invoke/VarHandle" ∧ (parseMethodDescriptor yX5_mustBeRight.desc).map (fun d => d.parameters.length) = some 1 := by decide +kernel
theorem hd_X5_mustExist : yX5_mustExist.cls ≠ "java/lang/invoke/MethodHandle" ∧ yX5_mustExist.cls ≠ "java/lang/invoke/VarHandle" ∧ (parseMethodDescriptor yX5_mustExist.desc).map (fun d => d.parameters.length) = some 1 := by decide +kernel
theorem hd_X5_mustLive : yX5_mustLive.cls ≠ "java/lang/invoke/MethodHandle" ∧ yX5_mustLive.cls ≠ "java/lang/invoke/VarHandle" ∧ (parseMethodDescriptor yX5_mustLive.desc).map (fun d => d.parameters.length) = some 1 := by decide +kernel
theorem hd_X5_of : yX5_of.cls ≠ "java/lang/invoke/MethodHandle" ∧ yX5_of.cls ≠ "java/lang/invoke/VarHandle" ∧ (parseMethodDescriptor yX5_of.desc).map (fun d => d.parameters.length) = some 2 := by decide +kernel
theorem hd_X5_ofBowl : yX5_ofBowl.cls ≠ "java/lang/invoke/MethodHandle" ∧ yX5_ofBowl.cls ≠ "java/lang/invoke/VarHandle" ∧ (parseMethodDescriptor yX5_ofBowl.desc).map (fun d => d.parameters.length) = some 2 := by decide +kernel
theorem hd_X5_ofLoan : yX5_ofLoan.cls ≠ "java/lang/invoke/MethodHandle" ∧ yX5_ofLoan.cls ≠ "java/lang/invoke/VarHandle" ∧ (parseMethodDescriptor yX5_ofLoan.desc).map (fun d => d.parameters.length) = some 2 := by decide +kernel
theorem hd_X5_ofSale : yX5_ofSale.cls ≠ "java/lang/invoke/MethodHandle" ∧ yX5_ofSale.cls ≠ "java/lang/invoke/VarHandle" ∧ (parseMethodDescriptor yX5_ofSale.desc).map (fun d => d.parameters.length) = some 2 := by decide +kernel
theorem hd_X5_owner : yX5_owner.cls ≠ "java/lang/invoke/MethodHandle" ∧ yX5_owner.cls ≠ "java/lang/invoke/VarHandle" ∧ (parseMethodDescriptor yX5_owner.desc).map (fun d => d.parameters.length) = some 4 := by decide +kernel
theorem hd_X5_pass : yX5_pass.cls ≠ "java/lang/invoke/MethodHandle" ∧ yX5_pass.cls ≠ "java/lang/invoke/VarHandle" ∧ (parseMethodDescriptor yX5_pass.desc).map (fun d => d.parameters.length) = some 2 := by decide +kernel
theorem hd_X5_pollinate : yX5_pollinate.cls ≠ "java/lang/invoke/MethodHandle" ∧ yX5_pollinate.cls ≠ "java/lang/invoke/VarHandle" ∧ (parseMethodDescriptor yX5_pollinate.desc).map (fun d => d.parameters.length) = some 2 := by decide +kernel
theorem hd_X5_pump : yX5_pump.cls ≠ "java/lang/invoke/MethodHandle" ∧ yX5_pump.cls ≠ "java/lang/invoke/VarHandle" ∧ (parseMethodDescriptor yX5_pump.desc).map (fun d => d.parameters.length) = some 1 := by decide +kernel
theorem hd_X5_pumpTakes : yX5_pumpTakes.cls ≠ "java/lang/invoke/MethodHandle" ∧ yX5_pumpTakes.cls ≠ "java/lang/invoke/VarHandle" ∧ (parseMethodDescriptor yX5_pumpTakes.desc).map (fun d => d.parameters.length) = some 3 := by decide +kernel
theorem hd_X5_reapedAtHarvest : yX5_reapedAtHarvest.cls ≠ "java/lang/invoke/MethodHandle" ∧ yX5_reapedAtHarvest.cls ≠ "java/lang/invoke/VarHandle" ∧ (parseMethodDescriptor yX5_reapedAtHarvest.desc).map (fun d => d.parameters.length) = some 1 := by decide +kernel
theorem hd_X5_sell : yX5_sell.cls ≠ "java/lang/invoke/MethodHandle" ∧ yX5_sell.cls ≠ "java/lang/invoke/VarHandle" ∧ (parseMethodDescriptor yX5_sell.desc).map (fun d => d.parameters.length) = some 4 := by decide +kernel
theorem hd_X5_wouldCome : yX5_wouldCome.cls ≠ "java/lang/invoke/MethodHandle" ∧ yX5_wouldCome.cls ≠ "java/lang/invoke/VarHandle" ∧ (parseMethodDescriptor yX5_wouldCome.desc).map (fun d => d.parameters.length) = some 3 := by decide +kernel
theorem hd_X5_wouldReap : yX5_wouldReap.cls ≠ "java/lang/invoke/MethodHandle" ∧ yX5_wouldReap.cls ≠ "java/lang/invoke/VarHandle" ∧ (parseMethodDescriptor yX5_wouldReap.desc).map (fun d => d.parameters.length) = some 2 := by decide +kernel
theorem hd_X6_draw : yX6_draw.cls ≠ "java/lang/invoke/MethodHandle" ∧ yX6_draw.cls ≠ "java/lang/invoke/VarHandle" ∧ (parseMethodDescriptor yX6_draw.desc).map (fun d => d.parameters.length) = some 1 := by decide +kernel
theorem hd_X6_found : yX6_found.cls ≠ "java/lang/invoke/MethodHandle" ∧ yX6_found.cls ≠ "java/lang/invoke/VarHandle" ∧ (parseMethodDescriptor yX6_found.desc).map (fun d => d.parameters.length) = some 1 := by decide +kernel
theorem hd_X6_init : yX6_init.cls ≠ "java/lang/invoke/MethodHandle" ∧ yX6_init.cls ≠ "java/lang/invoke/VarHandle" ∧ (parseMethodDescriptor yX6_init.desc).map (fun d => d.parameters.length) = some 2 := by decide +kernel
theorem hd_X6_owner : yX6_owner.cls ≠ "java/lang/invoke/MethodHandle" ∧ yX6_owner.cls ≠ "java/lang/invoke/VarHandle" ∧ (parseMethodDescriptor yX6_owner.desc).map (fun d => d.parameters.length) = some 4 := by decide +kernel
end
section
/-! the place of an Oasis of the class: twenty cells from o on -/
section LAY
variable {o : Nat} {sh : mSh} {P : mPt}
end LAY
def rsum (f : Nat → Int32) : Nat → Int32
  | 0 => 0
  | k + 1 => rsum f k + f k
def numb (o : Nat) (x : Int32) : Nat := if 0 ≤ x ∧ x < 10 then o + 6 + x.toNatClampNeg else o + 5
theorem numb_nI {o i : Nat} (h : i < 10) : numb o (nI i) = o + 6 + i := by
  unfold numb
  rw [if_pos ⟨nI_pos' (by omega), nI_lt (a := i) (b := 10) h (by decide)⟩, nI_clamp (by omega)]
end
section
def palmReap (x : Nat → Int32) : Int32 := x 9 * x 6 * (100 - x 7) / 1000
def fdivI (x y : Int32) : Int32 := if 0 ≤ x ^^^ y then x / y else if x / y * y = x then x / y else x / y - 1
def takeX (pl : Int32) (x : Nat → Int32) : Nat → Int32 := upd (upd (upd x 12 (x 11 * (100 - 2 * pl) / 100)) 13 (x 13 + x 11 * (100 - 2 * pl) / 100)) 11 0
def reapX (x : Nat → Int32) : Nat → Int32 := upd (upd (upd (upd x 14 (palmReap x)) 8 (x 8 + palmReap x)) 9 0) 10 0
def settleX (w c p m : Int32) (x : Nat → Int32) : Nat → Int32 := upd (upd (upd (upd (upd x 2 w) 3 c) 4 p) 5 m) 6 50
def likeX (y x : Nat → Int32) : Nat → Int32 := upd (upd (upd (upd (upd (upd (upd (upd (upd (upd (upd (upd (upd (upd x 1 (y 1)) 2 (y 2)) 3 (y 3)) 4 (y 4)) 5 (y 5)) 6 (y 6)) 7 (y 7)) 8 (y 8)) 9 (y 9)) 10 (y 10)) 11 (y 11)) 12 (y 12)) 13 (y 13)) 14 (y 14)
def partF (w s d h : Int32) : Int32 := if 1 ≤ 2 * s + d then (if h < s then fdivI (2 * w) (2 * s + d) else fdivI w (2 * s + d)) + (if h < w - s * fdivI (2 * w) (2 * s + d) - d * fdivI w (2 * s + d) then 1 else 0) else 0
def inhX (y : Nat → Int32) (s d h : Int32) (x : Nat → Int32) : Nat → Int32 := upd (upd (upd (upd (upd (upd (upd x 2 (partF (y 2) s d h)) 3 (partF (y 3) s d h)) 4 (partF (y 4) s d h)) 5 (partF (y 5) s d h)) 8 (partF (y 8) s d h)) 6 (y 6)) 7 (y 7)
section MX
variable {Γ : mC} {κ : mKp} {Q : State → Prop} {kc ks n : Nat} {sh : mSh} {P : mPt} {D : mDt} {E : mEt} {lv : List (Nat × Value)} {st : List Value} {pc : Nat} {own : String} {cc : ByteArray} {nL : Nat} {ret : Option FieldType} {R : Room}
end MX

theorem metOfWF {l : Launch} {y : MethodName} {ws ws' : List Cond} {rm : Room} {Pc : Array Value → State → Prop} {Qc : Array Value → State → Outcome → State → Prop} {mc ms : Nat} {free : Addr → Prop} {cc : ByteArray} {maxL : Nat} {ret : Option FieldType}
    (hy : plainFor y = true) (hw : ws = Cond.code y cc maxL ret :: ws')
    (body : ∀ p e s m args below meth c s₁, BodyLoose p l y (headSpec ws rm) cc maxL ret e s m args below meth c s₁ → c.maxLocals = maxL → Pc args s →
      W p l e (headSpec ws rm).room s m args below meth c s.heap [] 0 0 (MQ below Qc args s mc ms free) (entryFrame m args maxL)) : Met l y ws rm Pc Qc mc ms free := by
  refine MetFree.of_bodySF (code := cc) (maxLocals := maxL) (ret := ret) hy ?_ ?_
  · intro args s m h hn
    obtain ⟨meth, c, h1, h2, h3, h4, h5, h6, -, -⟩ := Cond.code_spec hn (atoms_spec (ws := ws) h _ (by rw [hw]; exact List.mem_cons_self))
    exact ⟨meth, c, h1, h2, h3, h4, h5, h6⟩
  · intro p e s m args below meth c s₁ B hml hP _
    have hh0 : s₁.heap = s.heap := by rw [B.state]; rfl
    obtain ⟨t, a1, o, b1, b2, b3⟩ := body p e s m args below meth c s₁ B hml hP s₁ hh0 (Stand.of_body B)
    exact ⟨t, o, a1, b1, b2, ⟨b3.1, b3.2⟩⟩
theorem fdNat : (Jvm.natives.all fun r => !(r.cls == "java/lang/Math" && r.name == "floorDiv")) = true := by decide +kernel
end
section
theorem dealIx (i k : Nat) : nI i * 4 + nI k = nI (i * 4 + k) := by
  rw [show (4 : Int32) = nI 4 from rfl, pk_mul, nI_add]
abbrev dRow : Type := Int32 × Int32 × Int32 × Int32
def drow (f : Nat → Int32) (i : Nat) : dRow := (f (i * 4), f (i * 4 + 1), f (i * 4 + 2), f (i * 4 + 3))
def dls (f : Nat → Int32) (n : Nat) : List dRow := (List.range n).map (drow f)
theorem dls_len (f : Nat → Int32) (n : Nat) : (dls f n).length = n := by simp [dls]
theorem dls_succ (f : Nat → Int32) (n : Nat) : dls f (n + 1) = dls f n ++ [drow f n] := by simp [dls, List.range_succ]
theorem dls_congr {f g : Nat → Int32} {n : Nat} (h : ∀ x, x < n * 4 → g x = f x) : dls g n = dls f n := by
  unfold dls
  apply List.map_congr_left
  intro i hi
  have hi := List.mem_range.mp hi
  simp only [drow]
  rw [h _ (by omega), h _ (by omega), h _ (by omega), h _ (by omega)]
def mvF (f : Nat → Int32) (t i : Nat) : Nat → Int32 := fun x => if t * 4 ≤ x ∧ x < t * 4 + 4 then f (i * 4 + (x - t * 4)) else f x
theorem mvF_eq (f : Nat → Int32) (t i : Nat) : upd (upd (upd (upd f (t * 4 + 0) (f (i * 4 + 0))) (t * 4 + 1) (f (i * 4 + 1))) (t * 4 + 2) (f (i * 4 + 2))) (t * 4 + 3) (f (i * 4 + 3)) = mvF f t i := by
  funext x
  unfold upd mvF
  by_cases h3 : x = t * 4 + 3
  · rw [if_pos h3, if_pos (by omega)]; congr 1; omega
  · rw [if_neg h3]
    by_cases h2 : x = t * 4 + 2
    · rw [if_pos h2, if_pos (by omega)]; congr 1; omega
    · rw [if_neg h2]
      by_cases h1 : x = t * 4 + 1
      · rw [if_pos h1, if_pos (by omega)]; congr 1; omega
      · rw [if_neg h1]
        by_cases h0 : x = t * 4 + 0
        · rw [if_pos h0, if_pos (by omega)]; congr 1; omega
        · rw [if_neg h0, if_neg (by omega)]
theorem drow_mv (f : Nat → Int32) (t i : Nat) : drow (mvF f t i) t = drow f i := by
  simp only [drow, mvF]
  rw [if_pos (by omega), if_pos (by omega), if_pos (by omega), if_pos (by omega)]
  simp only [Nat.sub_self, Nat.add_zero, Nat.add_sub_cancel_left]
theorem dls_mv (f : Nat → Int32) (t i : Nat) : dls (mvF f t i) t = dls f t := dls_congr (fun x hx => by simp only [mvF]; rw [if_neg (by omega)])
theorem flt {φ : dRow → Option dRow} {g f : Nat → Int32} {k i : Nat} (h1 : dls g k = (dls f i).filterMap φ) (hr : φ (drow f i) = some (drow g i)) : dls (mvF g k i) (k + 1) = (dls f (i + 1)).filterMap φ := by
  rw [dls_succ, dls_succ, List.filterMap_append, dls_mv, drow_mv, h1]
  simp [hr]
theorem fltN {φ : dRow → Option dRow} {g f : Nat → Int32} {k i : Nat} (h1 : dls g k = (dls f i).filterMap φ) (hr : φ (drow f i) = none) : dls g k = (dls f (i + 1)).filterMap φ := by
  rw [dls_succ, List.filterMap_append, h1]
  simp [hr]
theorem dls_upd {g : Nat → Int32} {k y : Nat} {v : Int32} (h : k * 4 ≤ y) : dls (upd g y v) k = dls g k := dls_congr (fun x hx => by simp only [upd]; rw [if_neg (by omega)])
theorem drow_get {g f : Nat → Int32} {i : Nat} (h : ∀ x, i * 4 ≤ x → g x = f x) : drow g i = drow f i := by
  simp only [drow]
  rw [h _ (by omega), h _ (by omega), h _ (by omega), h _ (by omega)]
def ageR (r : dRow) : Option dRow := if r.2.2.2 - 1 ≤ 0 then none else some (r.1, r.2.1, r.2.2.1, r.2.2.2 - 1)
def endR (x : Int32) (r : dRow) : Option dRow := if r.1 = x then none else if r.2.1 = x then none else some r
def passR (x y : Int32) (r : dRow) : dRow := (if r.1 = x then y else r.1, if r.2.1 = x then y else r.2.1, r.2.2.1, r.2.2.2)
def amtF (f : Nat → Int32) (cl : Nat) (x : Int32) : Nat → Int32
  | 0 => 0
  | k + 1 => if f (k * 4 + cl) = x then amtF f cl x k + f (k * 4 + 2) else amtF f cl x k

theorem mLt {i m : Nat} (h : ¬ nI m ≤ nI i) (hi : i ≤ 10) : i < m := Nat.lt_of_not_le (fun q => h (nI_le q (by omega)))
theorem mGe {i m : Nat} (h : nI m ≤ nI i) (hi : i ≤ 10) (hm : m ≤ 10) : m ≤ i := (nI_leI (by omega) (by omega)).mp h
theorem age_keep {g f : Nat → Int32} {i : Nat} (h : ∀ x, i * 4 ≤ x → g x = f x) (hc : ¬ f (i * 4 + 3) - 1 ≤ 0) : ageR (drow f i) = some (drow (upd g (i * 4 + 3) (f (i * 4 + 3) - 1)) i) := by
  have e2 : drow (upd g (i * 4 + 3) (f (i * 4 + 3) - 1)) i = (f (i * 4), f (i * 4 + 1), f (i * 4 + 2), f (i * 4 + 3) - 1) := by
    simp only [drow, upd]
    rw [if_neg (by omega), if_neg (by omega), if_neg (by omega), h _ (by omega), h _ (by omega), h _ (by omega)]
    simp
  rw [e2]
  exact if_neg hc
theorem age_drop {f : Nat → Int32} {i : Nat} (hc : f (i * 4 + 3) - 1 ≤ 0) : ageR (drow f i) = none := if_pos hc
theorem end_keep {g f : Nat → Int32} {i : Nat} {x : Int32} (h : ∀ x, i * 4 ≤ x → g x = f x) (h0 : ¬ f (i * 4 + 0) = x) (h1 : ¬ f (i * 4 + 1) = x) : endR x (drow f i) = some (drow g i) := by
  rw [drow_get h]
  exact (if_neg h0).trans (if_neg h1)
theorem end_drop0 {f : Nat → Int32} {i : Nat} {x : Int32} (h0 : f (i * 4 + 0) = x) : endR x (drow f i) = none := if_pos h0
theorem end_drop1 {f : Nat → Int32} {i : Nat} {x : Int32} (h0 : ¬ f (i * 4 + 0) = x) (h1 : f (i * 4 + 1) = x) : endR x (drow f i) = none := (if_neg h0).trans (if_pos h1)

/-- the rows behind i steps of shorten, and how many are kept -/
def ageG (f : Nat → Int32) : Nat → (Nat → Int32) × Nat
  | 0 => (f, 0)
  | i + 1 => if f (i * 4 + 3) - 1 ≤ 0 then (upd (ageG f i).1 (i * 4 + 3) (f (i * 4 + 3) - 1), (ageG f i).2) else (mvF (upd (ageG f i).1 (i * 4 + 3) (f (i * 4 + 3) - 1)) (ageG f i).2 i, (ageG f i).2 + 1)
theorem ageG_ok (f : Nat → Int32) (m : Nat) : (ageG f m).2 ≤ m ∧ dls (ageG f m).1 (ageG f m).2 = (dls f m).filterMap ageR ∧ ∀ x, m * 4 ≤ x → (ageG f m).1 x = f x := by
  induction m with
  | zero => exact ⟨Nat.le_refl _, rfl, fun _ _ => rfl⟩
  | succ i ih =>
    obtain ⟨hk, h1, h2⟩ := ih
    by_cases hc : f (i * 4 + 3) - 1 ≤ 0
    · rw [show ageG f (i + 1) = (upd (ageG f i).1 (i * 4 + 3) (f (i * 4 + 3) - 1), (ageG f i).2) from if_pos hc]
      exact ⟨by show (ageG f i).2 ≤ i + 1; omega, fltN (by show dls (upd _ _ _) _ = _; rw [dls_upd (by omega)]; exact h1) (age_drop hc), fun x hx => by simp only [upd]; rw [if_neg (by omega)]; exact h2 x (by omega)⟩
    · rw [show ageG f (i + 1) = (mvF (upd (ageG f i).1 (i * 4 + 3) (f (i * 4 + 3) - 1)) (ageG f i).2 i, (ageG f i).2 + 1) from if_neg hc]
      exact ⟨by show (ageG f i).2 + 1 ≤ i + 1; omega, flt (by rw [dls_upd (by omega)]; exact h1) (age_keep h2 hc), fun x hx => by simp only [mvF, upd]; rw [if_neg (by omega), if_neg (by omega)]; exact h2 x (by omega)⟩

def addF (f : Nat → Int32) (m : Nat) (a b c e : Int32) : Nat → Int32 := upd (upd (upd (upd f (m * 4 + 0) a) (m * 4 + 1) b) (m * 4 + 2) c) (m * 4 + 3) e
theorem dls_add (f : Nat → Int32) (m : Nat) (a b c e : Int32) : dls (addF f m a b c e) (m + 1) = dls f m ++ [(a, b, c, e)] := by
  rw [dls_succ, dls_congr (f := f) (fun x hx => by simp only [addF, upd]; rw [if_neg (by omega), if_neg (by omega), if_neg (by omega), if_neg (by omega)])]
  congr 2
  simp [drow, addF, upd]
theorem pass_row {X f : Nat → Int32} {i : Nat} {x y u0 u1 : Int32} (e0 : X (i * 4 + 0) = u0) (e1 : X (i * 4 + 1) = u1) (e2 : X (i * 4 + 2) = f (i * 4 + 2)) (e3 : X (i * 4 + 3) = f (i * 4 + 3)) (d0 : (if f (i * 4 + 0) = x then y else f (i * 4 + 0)) = u0) (d1 : (if f (i * 4 + 1) = x then y else f (i * 4 + 1)) = u1) : drow X i = passR x y (drow f i) := by
  subst d0
  subst d1
  show (X (i * 4 + 0), X (i * 4 + 1), X (i * 4 + 2), X (i * 4 + 3)) = _
  rw [e0, e1, e2, e3]
  rfl
theorem pass_step {X g f : Nat → Int32} {i : Nat} {x y : Int32} (h1 : dls g i = (dls f i).map (passR x y)) (hX : ∀ z, z < i * 4 → X z = g z) (hr : drow X i = passR x y (drow f i)) : dls X (i + 1) = (dls f (i + 1)).map (passR x y) := by
  rw [dls_succ, dls_succ, List.map_append, dls_congr hX, h1, hr]
  rfl

theorem like_step {g f : Nat → Int32} {i : Nat} (h : ∀ z, z < i * 4 → g z = f z) : ∀ z, z < (i + 1) * 4 → upd (upd (upd (upd g (i * 4 + 0) (f (i * 4 + 0))) (i * 4 + 1) (f (i * 4 + 1))) (i * 4 + 2) (f (i * 4 + 2))) (i * 4 + 3) (f (i * 4 + 3)) z = f z := by
  intro z hz
  simp only [upd]
  by_cases h3 : z = i * 4 + 3
  · rw [if_pos h3, h3]
  · rw [if_neg h3]
    by_cases h2 : z = i * 4 + 2
    · rw [if_pos h2, h2]
    · rw [if_neg h2]
      by_cases h1 : z = i * 4 + 1
      · rw [if_pos h1, h1]
      · rw [if_neg h1]
        by_cases h0 : z = i * 4 + 0
        · rw [if_pos h0, h0]
        · rw [if_neg h0]; exact h z (by omega)
end
section
theorem mIx {x : Int32} {m : Nat} (h0 : ¬ x < 0) (h1 : ¬ nI m ≤ x) (hm : m < 2 ^ 31) : ∃ j : Nat, j < m ∧ x = nI j := by
  obtain ⟨j, hj, hx, -⟩ := pk_mu h0 h1 hm
  exact ⟨j, hj, hx⟩
theorem numb_lo {o : Nat} {x : Int32} (h : x < 0) : numb o x = o + 5 := by
  unfold numb
  rw [if_neg (fun q => absurd h (Int32.not_lt.mpr q.1))]
theorem numb_hi {o : Nat} {x : Int32} (h : 10 ≤ x) : numb o x = o + 5 := by
  unfold numb
  rw [if_neg (fun q => absurd q.2 (Int32.not_lt.mpr h))]

def lsub (c : Int32) (f : Nat → Int32) : Nat → Int32
  | 0 => c
  | k + 1 => lsub c f k - f k
def shareX (cost all : Int32) (x : Nat → Int32) : Nat → Int32 := upd x 3 (x 3 - cost * x 2 / all)
def holdF (F : Nat → Int32) (x : Int32) : Nat → Nat → Option Nat
  | _, 0 => none
  | i, k + 1 => if x < rsum F (i + 1) then some i else holdF F x (i + 1) k
def holdI (F : Nat → Int32) (ρ : Nat → Nat) (x : Int32) (L : Nat) : Int32 := match holdF F x 0 L with
  | some p => nI (ρ p)
  | none => -1
end
section
theorem row_step {g : Nat → Int32} {ρ : Nat → Nat} {i : Nat} (h1 : ∀ p, p < i → g p = nI (ρ p)) : ∀ p, p < i + 1 → upd g i (nI (ρ i)) p = nI (ρ p) := by
  intro p hp
  simp only [upd]
  by_cases h : p = i
  · rw [if_pos h, h]
  · rw [if_neg h]; exact h1 p (by omega)
/-- the row with h heirs, from the number e on, in the place q -/
def heirRow (ρ : Nat → Nat) (q h e : Nat) : Nat → Nat := fun p => if p < q then ρ p else if p < q + h then e + (p - q) else ρ (p + 1 - h)
theorem heir1 {g : Nat → Int32} {ρ : Nat → Nat} {b L h : Nat} {f : Nat → Int32} (hh : 1 ≤ h) (h1 : ∀ p, p ≤ b → g p = f p) (h2 : ∀ p, b < p → p < L → g (p + h - 1) = nI (ρ p)) : (∀ p, p ≤ b - 1 → p < b → upd g (b + h - 1) (nI (ρ b)) p = f p) ∧ (∀ p, b - 1 < p → p < L → upd g (b + h - 1) (nI (ρ b)) (p + h - 1) = nI (ρ p)) := by
  refine ⟨fun p hp hpb => ?_, fun p hp hL => ?_⟩
  · simp only [upd]
    rw [if_neg (by omega)]; exact h1 p (by omega)
  · simp only [upd]
    by_cases hx : p = b
    · subst hx; rw [if_pos rfl]
    · rw [if_neg (by omega)]; exact h2 p (by omega) hL

theorem heir2 {g : Nat → Int32} {q e i : Nat} (h6 : ∀ j, j < i → g (q + j) = nI (e + j)) : ∀ j, j < i + 1 → upd g (q + i) (nI (e + i)) (q + j) = nI (e + j) := by
  intro j hj
  simp only [upd]
  by_cases h : j = i
  · rw [if_pos (by omega), h]
  · rw [if_neg (by omega)]; exact h6 j (by omega)
theorem heir3 {g : Nat → Int32} {ρ : Nat → Nat} {q h e L : Nat} (hh : 1 ≤ h) (hq : q < L) (h1 : ∀ p, p < q → g p = nI (ρ p)) (h2 : ∀ p, q < p → p < L → g (p + h - 1) = nI (ρ p)) (h6 : ∀ j, j < h → g (q + j) = nI (e + j)) : ∀ p, p < L + h - 1 → g p = nI (heirRow ρ q h e p) := by
  intro p hp
  simp only [heirRow]
  by_cases a : p < q
  · rw [if_pos a]; exact h1 p a
  · rw [if_neg a]
    by_cases b : p < q + h
    · rw [if_pos b]
      have := h6 (p - q) (by omega)
      rw [show q + (p - q) = p by omega] at this
      exact this
    · rw [if_neg b]
      have := h2 (p + 1 - h) (by omega) (by omega)
      rw [show p + 1 - h + h - 1 = p by omega] at this
      exact this
end
section
abbrev rm7 (x : Int32) : Int32 := x - x / 7 * 7
abbrev rm10 (x : Int32) : Int32 := x - x / 10 * 10
abbrev rm70 (x : Int32) : Int32 := x - x / 70 * 70
def harvIn (x : Int32) : Int32 := if 60 - rm70 x ≤ 0 then 60 - rm70 x + 70 else 60 - rm70 x
/-- the number in a cell -/
def toN (x : Int32) : Nat := x.toNatClampNeg
/-- where the bowls of x end, behind i loans -/
def lentE (f : Nat → Int32) (x en : Int32) : Nat → Int32
  | 0 => en
  | i + 1 => if f (i * 4 + 0) = x then lentE f x en i - f (i * 4 + 2) else lentE f x en i
/-- deals whose two sides are numbers of owners -/
def dOk (f : Nat → Int32) (m : Nat) : Prop := m ≤ 8 ∧ ∀ i, i < m → (toN (f (i * 4 + 0)) < 10 ∧ f (i * 4 + 0) = nI (toN (f (i * 4 + 0)))) ∧ toN (f (i * 4 + 1)) < 10 ∧ f (i * 4 + 1) = nI (toN (f (i * 4 + 1)))
end
section
def tenZ (d : Int32) : Int32 := if rm10 (rm70 d) = 0 then 1 else 0
theorem reapX_0 (x : Nat → Int32) : reapX x 0 = x 0 := by simp [reapX, upd]
theorem dOk_0 (f : Nat → Int32) : dOk f 0 := ⟨by omega, fun i hi => absurd hi (by omega)⟩
theorem dOk_dls {f : Nat → Int32} {m : Nat} : dOk f m ↔ m ≤ 8 ∧ ∀ r ∈ dls f m, (toN r.1 < 10 ∧ r.1 = nI (toN r.1)) ∧ toN r.2.1 < 10 ∧ r.2.1 = nI (toN r.2.1) := by
  constructor
  · rintro ⟨h1, h2⟩
    refine ⟨h1, fun r hr => ?_⟩
    obtain ⟨i, hi, rfl⟩ := List.mem_map.mp hr
    exact h2 i (List.mem_range.mp hi)
  · rintro ⟨h1, h2⟩
    exact ⟨h1, fun i hi => h2 (drow f i) (List.mem_map.mpr ⟨i, List.mem_range.mpr hi, rfl⟩)⟩
theorem dOk_age {f : Nat → Int32} {m : Nat} (h : dOk f m) : dOk (ageG f m).1 (ageG f m).2 := by
  obtain ⟨h1, h2, -⟩ := ageG_ok f m
  rw [dOk_dls] at h ⊢
  refine ⟨by omega, fun r hr => ?_⟩
  rw [h2] at hr
  obtain ⟨q, hq, e⟩ := List.mem_filterMap.mp hr
  have hk := h.2 q hq
  unfold ageR at e
  split at e
  · cases e
  · cases e; exact hk
theorem mLtB {i m : Nat} (h : ¬ nI m ≤ nI i) (hi : i < 2 ^ 31) : i < m := Nat.lt_of_not_le (fun q => h (nI_le q hi))
theorem mGeB {i m : Nat} (h : nI m ≤ nI i) (hi : i < 2 ^ 31) (hm : m < 2 ^ 31) : m ≤ i := (nI_leI hm hi).mp h
end
section
theorem sw14 {w : Nat} (h : w < 14) : w = 0 ∨ w = 1 ∨ w = 2 ∨ w = 3 ∨ w = 4 ∨ w = 5 ∨ w = 6 ∨ w = 7 ∨ w = 8 ∨ w = 9 ∨ w = 10 ∨ w = 11 ∨ w = 12 ∨ w = 13 := by omega
theorem sw16 {w : Nat} (h : w < 16) : w = 0 ∨ w = 1 ∨ w = 2 ∨ w = 3 ∨ w = 4 ∨ w = 5 ∨ w = 6 ∨ w = 7 ∨ w = 8 ∨ w = 9 ∨ w = 10 ∨ w = 11 ∨ w = 12 ∨ w = 13 ∨ w = 14 ∨ w = 15 := by omega
/-- who uses the bowl x of the owner h: bh bowls lie behind it -/
def usr (f : Nat → Int32) (h : Int32) : Int32 → Nat → Nat → Int32
  | _, _, 0 => h
  | bh, i, k + 1 => if f (i * 4 + 0) = h then (if bh < f (i * 4 + 2) then f (i * 4 + 1) else usr f h (bh - f (i * 4 + 2)) (i + 1) k) else usr f h bh (i + 1) k
def userI (F : Nat → Int32) (ρ : Nat → Nat) (f : Nat → Int32) (m : Nat) (x : Int32) (L : Nat) : Int32 := match holdF F x 0 L with
  | some p => usr f (nI (ρ p)) (rsum F p + F p - 1 - x) 0 m
  | none => -1
theorem holdF_lt {F : Nat → Int32} {x : Int32} {p : Nat} : ∀ {k i : Nat}, holdF F x i k = some p → i ≤ p ∧ p < i + k
  | 0, i, h => by cases h
  | k + 1, i, h => by
    rw [holdF] at h
    split at h
    · cases h; omega
    · have := holdF_lt h; omega

theorem nI_ne1 {t : Nat} (h : t < 10) : ¬ nI t = -1 := by
  intro q
  have h1 : (nI t).toInt = (-1 : Int32).toInt := by rw [q]
  rw [nI_toInt (by omega)] at h1
  have h2 : (-1 : Int32).toInt = -1 := by decide
  omega
end
section

end
section

end
section
/-! methods that throw: IllegalArgumentException, IllegalStateException, IndexOutOfBoundsException, made by the class OasisBooks itself -/
abbrev xNm : List String := ["java/lang/RuntimeException", "java/lang/Exception"]
abbrev xA : String := "java/lang/IllegalArgumentException"
abbrev xS : String := "java/lang/IllegalStateException"
abbrev xI : String := "java/lang/IndexOutOfBoundsException"
def mNestX : List Cond := ((vx_at0 RX5 232 xA xNm ++ vx_at0 RX5 235 xS xNm) ++ vx_at0 RX5 238 xI xNm).filter (fun w => !goodWord w)
def mNkX : Cond → Bool
  | .castable _ _ => true
  | .declares _ => true
  | _ => false
theorem mNestX_k : ∀ w ∈ mNestX, mNkX w = true := by decide +kernel
theorem mNkX_on {w : Cond} (h : mNkX w = true) : w.onTables = true := by
  cases w <;> first | rfl | exact absurd h (by simp [mNkX])
theorem mNkX_warm {w : Cond} (h : mNkX w = true) {s U : State} (hW : s.WarmedH U.vm) (hZ : va_Nw w s) : va_Nw w U := by
  cases w <;> first | exact va_Nw.warmC hW hZ | exact va_Nw.warmD hW hZ | exact absurd h (by simp [mNkX])
def mPx (base : Nat) (U : State) : Prop := (∀ w ∈ mNestX, va_Nw w U) ∧ vx_Zq Bundle.tN "UNASSIGNED_STACK" Bundle.steD (fun q => base ≤ q) U U.heap ∧ vx_Zq Bundle.tN "SUPPRESSED_SENTINEL" Bundle.listD (fun q => base ≤ q) U U.heap
theorem mPx_move {base : Nat} {s U : State} (hW : s.WarmedH U.vm) (hk : ∀ q : Nat, q < s.heap.size → ¬ base ≤ q → U.heap[q]? = s.heap[q]?) (h : mPx base s) : mPx base U := ⟨fun w hw => mNkX_warm (mNestX_k w hw) hW (h.1 w hw), (h.2.1.moved hW.alike).kept hk, (h.2.2.moved hW.alike).kept hk⟩
theorem mPx_same {base : Nat} {s U : State} (hv : s.vm = U.vm) (hh : U.heap = s.heap) (h : mPx base s) : mPx base U := ⟨fun w hw => va_Nw.same (mNkX_on (mNestX_k w hw)) hv (h.1 w hw), by rw [hh]; exact h.2.1.moved (by rw [hv]; exact Vm.Alike.refl _), by rw [hh]; exact h.2.2.moved (by rw [hv]; exact Vm.Alike.refl _)⟩
section MXX
variable {Γ : mC} {κ : mKp} {Q : State → Prop} {kc ks n : Nat} {sh : mSh} {P : mPt} {D : mDt} {E : mEt} {lv : List (Nat × Value)} {st : List Value} {pc : Nat} {own : String} {cc : ByteArray} {nL : Nat} {ret : Option FieldType} {R : Room} {post : mPost} {px : mXP} {mc ms : Nat}

end MXX
theorem xg_A1 : ∀ w ∈ (vx_at0 RX5 232 xA xNm).filter goodWord, w ∈ mW := by decide +kernel
theorem xg_S1 : ∀ w ∈ (vx_at0 RX5 235 xS xNm).filter goodWord, w ∈ mW := by decide +kernel
theorem xg_I1 : ∀ w ∈ (vx_at0 RX5 238 xI xNm).filter goodWord, w ∈ mW := by decide +kernel
theorem xg_A2 : ∀ w ∈ (vx_at0 RX5 232 xA xNm).filter (fun w => !goodWord w), w ∈ mNestX := by decide +kernel
theorem xg_S2 : ∀ w ∈ (vx_at0 RX5 235 xS xNm).filter (fun w => !goodWord w), w ∈ mNestX := by decide +kernel
theorem xg_I2 : ∀ w ∈ (vx_at0 RX5 238 xI xNm).filter (fun w => !goodWord w), w ∈ mNestX := by decide +kernel
theorem xg_A3 : ∀ w ∈ Cond.classLink RX5 230 xA :: Cond.initialized xA :: vx_at0 RX5 232 xA xNm, vx_ot w = true := by decide +kernel
theorem xg_S3 : ∀ w ∈ Cond.classLink RX5 233 xS :: Cond.initialized xS :: vx_at0 RX5 235 xS xNm, vx_ot w = true := by decide +kernel
theorem xg_I3 : ∀ w ∈ Cond.classLink RX5 236 xI :: Cond.initialized xI :: vx_at0 RX5 238 xI xNm, vx_ot w = true := by decide +kernel
end
section
section MXN
variable {Γ : mC} {κ : mKp} {Q : State → Prop} {kc ks n : Nat} {sh : mSh} {P : mPt} {D D0 : mDt} {E : mEt} {lv : List (Nat × Value)} {st : List Value} {pc : Nat} {own : String} {cc : ByteArray} {nL : Nat} {ret : Option FieldType} {R : Room} {postQ : mPost} {K : String → Prop} {mc ms : Nat}

end MXN
/-- v lies between two numbers -/
def wI (v a b : Int32) : Int32 := if v < a then 0 else if b < v then 0 else 1
def wP (v a b : Int32) : Prop := a ≤ v ∧ v ≤ b
theorem wI_1 {v a b : Int32} (h : ¬ wI v a b = 0) : wP v a b := by
  unfold wI at h
  split at h
  · exact absurd rfl h
  · rename_i h1
    split at h
    · exact absurd rfl h
    · rename_i h2
      exact ⟨Int32.not_lt.mp h1, Int32.not_lt.mp h2⟩
theorem wI_0 {v a b : Int32} (h : wI v a b = 0) : ¬ wP v a b := by
  rintro ⟨h1, h2⟩
  unfold wI at h
  rw [if_neg (Int32.not_lt.mpr h1), if_neg (Int32.not_lt.mpr h2)] at h
  exact absurd h (by decide)
/-- x is the number of one who lives -/
def livP (L : Nat) (ρ : Nat → Nat) (x : Int32) : Prop := ∃ q, q < L ∧ x = nI (ρ q)
theorem numb_cases (o : Nat) (x : Int32) : (numb o x = o + 5 ∧ ∀ i, i < 10 → x ≠ nI i) ∨ ∃ i, i < 10 ∧ x = nI i ∧ numb o x = o + 6 + i := by
  by_cases h : 0 ≤ x ∧ x < 10
  · refine Or.inr ?_
    obtain ⟨j, hj, rfl⟩ := nI_of (x := x) (Int32.not_lt.mpr h.1)
    have h3 : j < 10 := (nI_ltI (b := 10) hj (by decide)).mp h.2
    exact ⟨j, h3, rfl, numb_nI h3⟩
  · refine Or.inl ⟨by unfold numb; rw [if_neg h], ?_⟩
    rintro i hi rfl
    exact h ⟨nI_pos' (by omega), nI_lt (a := i) (b := 10) hi (by decide)⟩
end
section
/-- which of the three is thrown -/
def Kx (g1 g2 g3 : Prop) (X : String) : Prop := (X = xI ∧ ¬ g1) ∨ (X = xA ∧ g1 ∧ ¬ g2) ∨ (X = xS ∧ g1 ∧ g2 ∧ ¬ g3)
theorem kI {g1 g2 g3 : Prop} {X : String} (h : X = xI) (n : ¬ g1) : Kx g1 g2 g3 X := Or.inl ⟨h, n⟩
theorem kA {g1 g2 g3 : Prop} {X : String} (h : X = xA) (a : g1) (n : ¬ g2) : Kx g1 g2 g3 X := Or.inr (Or.inl ⟨h, a, n⟩)
theorem kS {g1 g2 g3 : Prop} {X : String} (h : X = xS) (a : g1) (b : g2) (n : ¬ g3) : Kx g1 g2 g3 X := Or.inr (Or.inr ⟨h, a, b, n⟩)

theorem room_no {e : Nat} {x : Int32} (h3 : x = nI e) (c : (if 10 < x + 1 then (0 : Int32) else 1) = 0) : ¬ e < 10 := by
  intro he
  rw [h3, nI_1] at c
  rw [show (10 : Int32) = nI 10 from rfl, if_neg (fun q => absurd ((nI_ltI (a := 10) (by decide) (by omega)).mp q) (by omega))] at c
  exact absurd c (by decide)
theorem room_yes {e : Nat} {x : Int32} (h3 : x = nI e) (h10 : e ≤ 10) (c : ¬ (if 10 < x + 1 then (0 : Int32) else 1) = 0) : e < 10 := by
  rw [h3, nI_1] at c
  rcases Nat.lt_or_ge e 10 with q | q
  · exact q
  · exact absurd (if_pos ((nI_ltI (a := 10) (by decide) (by omega)).mpr (by omega))) c
end
section
theorem numb_rng (o : Nat) (x : Int32) : o + 5 ≤ numb o x ∧ numb o x ≤ o + 15 := by
  rcases numb_cases o x with ⟨h1, h2⟩ | ⟨i, hi, rfl, h1⟩ <;> rw [h1] <;> omega
theorem lt_1 {x : Int32} (h : ¬ x ≤ 0) : 1 ≤ x := by
  rw [Int32.le_iff_toInt_le] at *
  have h0 : (0 : Int32).toInt = 0 := rfl
  have h1 : (1 : Int32).toInt = 1 := rfl
  omega
theorem wP_N {x : Int32} {a b : Nat} (h : wP x (nI a) (nI b)) (ha : a < 2 ^ 31) (hb : b < 2 ^ 31) : ∃ d, a ≤ d ∧ d ≤ b ∧ x = nI d := by
  obtain ⟨d, hd, rfl⟩ := nI_of (x := x) (Int32.not_lt.mpr (Int32.le_trans (nI_pos' ha) h.1))
  exact ⟨d, (nI_leI ha hd).mp h.1, (nI_leI hd hb).mp h.2, rfl⟩

theorem full_no {m : Nat} {x : Int32} (h3 : x = nI m) (c : ¬ (if x < 8 then (0 : Int32) else 1) = 0) : ¬ m < 8 := by
  intro q
  rw [h3, show (8 : Int32) = nI 8 from rfl, if_pos ((nI_ltI (b := 8) (by omega) (by decide)).mpr q)] at c
  exact c rfl
theorem full_yes {m : Nat} {x : Int32} (h3 : x = nI m) (hm : m ≤ 8) (c : (if x < 8 then (0 : Int32) else 1) = 0) : m < 8 := by
  rcases Nat.lt_or_ge m 8 with q | q
  · exact q
  · rw [h3, show (8 : Int32) = nI 8 from rfl, if_neg (fun z => absurd ((nI_ltI (b := 8) (by omega) (by decide)).mp z) (by omega))] at c
    exact absurd c (by decide)

theorem room_no2 {e d : Nat} {x : Int32} (h3 : x = nI e) (he : e ≤ 10) (hd : d ≤ 4) {y : Int32} (hy : y = nI d) (c : (if 10 < x + y then (0 : Int32) else 1) = 0) : ¬ e + d ≤ 10 := by
  intro q
  rw [h3, hy, nI_add, show (10 : Int32) = nI 10 from rfl, if_neg (fun z => absurd ((nI_ltI (a := 10) (by decide) (by omega)).mp z) (by omega))] at c
  exact absurd c (by decide)
theorem room_yes2 {e d : Nat} {x : Int32} (h3 : x = nI e) (he : e ≤ 10) (hd : d ≤ 4) {y : Int32} (hy : y = nI d) (c : ¬ (if 10 < x + y then (0 : Int32) else 1) = 0) : e + d ≤ 10 := by
  rcases Nat.lt_or_ge 10 (e + d) with q | q
  · rw [h3, hy, nI_add, show (10 : Int32) = nI 10 from rfl, if_pos ((nI_ltI (a := 10) (by decide) (by omega)).mpr q)] at c
    exact absurd rfl c
  · exact q
end
section
theorem lt_of0 {x : Int32} (h : ¬ x ≤ 0) : 0 < x := Int32.not_le.mp h
theorem wP_M {x : Int32} {m : Nat} (h : wP x 0 (nI m - 1)) (hm : m ≤ 8) : ∃ i, i < m ∧ x = nI i := by
  rcases m with _ | m
  · exact absurd (Int32.le_trans h.1 h.2) (by decide)
  · have e1 : nI (m + 1) - 1 = nI m := by rw [← nI_1]; exact Int32.add_sub_cancel _ _
    rw [e1] at h
    obtain ⟨d, -, h2, h3⟩ := wP_N (a := 0) (b := m) h (by decide) (by omega)
    exact ⟨d, by omega, h3⟩
end
section
theorem nI_mul (a b : Nat) : nI a * nI b = nI (a * b) := (Int32.ofNat_mul a b).symm
theorem nI_sub {a b : Nat} (h : b ≤ a) : nI a - nI b = nI (a - b) := by
  have e : nI a = nI (a - b) + nI b := by rw [nI_add, Nat.sub_add_cancel h]
  rw [e, Int32.add_sub_cancel]
theorem nI_div {a b : Nat} (ha : a < 2 ^ 31) (hb : b < 2 ^ 31) : nI a / nI b = nI (a / b) := by
  have hd : a / b < 2 ^ 31 := Nat.lt_of_le_of_lt (Nat.div_le_self a b) ha
  apply Int32.toInt_inj.mp
  rw [Int32.toInt_div_of_ne_left _ _ ?_, nI_toInt ha, nI_toInt hb, nI_toInt hd]
  · rfl
  · intro q
    have := congrArg Int32.toInt q
    rw [nI_toInt ha] at this
    have h2 : Int32.minValue.toInt = -2147483648 := rfl
    omega
theorem rm_nI {a b : Nat} (ha : a < 2 ^ 31) (hb : b < 2 ^ 31) : nI a - nI a / nI b * nI b = nI (a % b) := by
  rw [nI_div ha hb, nI_mul, nI_sub (Nat.div_mul_le_self a b)]
  congr 1
  have := Nat.div_add_mod a b
  rw [Nat.mul_comm] at this
  omega
theorem rm70_nI {a : Nat} (ha : a < 2 ^ 31) : rm70 (nI a) = nI (a % 70) := rm_nI (b := 70) ha (by decide)
theorem rm7_nI {a : Nat} (ha : a < 2 ^ 31) : rm7 (nI a) = nI (a % 7) := rm_nI (b := 7) ha (by decide)
theorem rm10_nI {a : Nat} (ha : a < 2 ^ 31) : rm10 (nI a) = nI (a % 10) := rm_nI (b := 10) ha (by decide)
/-- how many days are left to the next harvest -/
def harvN (dd : Nat) : Nat := if 60 ≤ dd % 70 then 130 - dd % 70 else 60 - dd % 70
theorem harvN_le (dd : Nat) : 1 ≤ harvN dd ∧ harvN dd ≤ 70 := by unfold harvN; split <;> omega
theorem harv_nI {dd : Nat} (h : dd < 2 ^ 31) : harvIn (nI dd) = nI (harvN dd) := by
  rw [harvIn, rm70_nI h, harvN]
  have h70 : dd % 70 < 70 := Nat.mod_lt _ (by decide)
  by_cases c : 60 ≤ dd % 70
  · rw [if_pos c]
    rcases Nat.lt_or_ge 60 (dd % 70) with q | q
    · rw [if_pos (show (60 : Int32) - nI (dd % 70) ≤ 0 from ?_)]
      · have e : nI (130 - dd % 70) + nI (dd % 70) = 130 := by rw [nI_add, Nat.sub_add_cancel (by omega)]; rfl
        have e2 : (60 : Int32) - nI (dd % 70) + 70 = 130 - nI (dd % 70) := by rw [Int32.sub_eq_add_neg, Int32.add_assoc, Int32.add_comm (-_), ← Int32.add_assoc, ← Int32.sub_eq_add_neg]; rfl
        rw [e2, ← e, Int32.add_sub_cancel]
      · have e : (60 : Int32) - nI (dd % 70) = -nI (dd % 70 - 60) := by
          rw [← nI_sub (show 60 ≤ dd % 70 from c), Int32.neg_sub]; rfl
        rw [e]
        have : ∀ z, z < 10 → -nI z ≤ 0 := by decide
        exact this _ (by omega)
    · have e : dd % 70 = 60 := by omega
      rw [e]; decide
  · rw [if_neg c, show (60 : Int32) = nI 60 from rfl, nI_sub (by omega), if_neg (nI_nle (by omega) (by omega))]
end
section
theorem likeX_j (y x : Nat → Int32) {j : Nat} (h : 1 ≤ j) (h2 : j < 15) : likeX y x j = y j := by
  obtain rfl | rfl | rfl | rfl | rfl | rfl | rfl | rfl | rfl | rfl | rfl | rfl | rfl | rfl : j = 1 ∨ j = 2 ∨ j = 3 ∨ j = 4 ∨ j = 5 ∨ j = 6 ∨ j = 7 ∨ j = 8 ∨ j = 9 ∨ j = 10 ∨ j = 11 ∨ j = 12 ∨ j = 13 ∨ j = 14 := by omega
  all_goals rfl
/-- the first of the lengths tried that brings the most -/
def digB (F : Nat → Int32) (len : Int32) : Nat → Int32 × Int32
  | 0 => (0, -1)
  | i + 1 => if 90 < len + nI i then digB F len i else if F i ≤ (digB F len i).2 then digB F len i else (nI i, F i)
theorem digB_congr {F G : Nat → Int32} {len : Int32} {n : Nat} (h : ∀ i, i < n → F i = G i) : digB F len n = digB G len n := by
  induction n with
  | zero => rfl
  | succ n ih => rw [digB, digB, ih (fun i hi => h i (Nat.lt_succ_of_lt hi)), h n (Nat.lt_succ_self n)]
theorem digB_new {F : Nat → Int32} {len r : Int32} {n : Nat} : digB (fun j => if j = n then r else F j) len n = digB F len n := digB_congr (fun i hi => if_neg (by omega))
end
section
section ML
variable {Γ : mC} {κ : mKp} {Q : State → Prop} {kc ks n : Nat} {sh : mSh} {P : mPt} {D : mDt} {E : mEt} {lv : List (Nat × Value)} {st : List Value} {pc : Nat} {own : String} {cc : ByteArray} {nL : Nat} {ret : Option FieldType} {R : Room} {post : mPost} {mc ms : Nat}
end ML
/-- d goes on by f 0, f 1 .. f (k - 1), as the books are digested -/
def digM (f : Nat → Int32) (d : Int64) : Nat → Int64
  | 0 => d
  | k + 1 => digM f d k * 31 + (f k).toInt64
theorem fp_ok : ∀ a, a < 1000 → ∀ b, b < 11 → vf_n64 (FP.ddiv (FP.i2d (nI a)) (FP.i2d (nI (b + 1)))) := by
  unfold vf_n64
  decide +kernel
end
section
theorem wI_ok {v a b : Int32} (h : wP v a b) : ¬ wI v a b = 0 := fun q => wI_0 q h

theorem wP_Mi {i m : Nat} (hi : i < m) (hm : m ≤ 8) : wP (nI i) 0 (nI m - 1) := by
  obtain ⟨m, rfl⟩ : ∃ z, m = z + 1 := ⟨m - 1, by omega⟩
  rw [show nI (m + 1) - 1 = nI m from by rw [← nI_1]; exact Int32.add_sub_cancel _ _]
  exact ⟨nI_pos' (by omega), nI_le (by omega) (by omega)⟩
theorem wP_n {d a b : Nat} (h1 : a ≤ d) (h2 : d ≤ b) (hb : b < 2 ^ 31) : wP (nI d) (nI a) (nI b) := ⟨nI_le h1 (by omega), nI_le h2 hb⟩
end
section
theorem wP_i {v a b : Int32} (h : a ≤ v ∧ v ≤ b) : wP v a b := h
theorem rsum_cg {F G : Nat → Int32} {n : Nat} (h : ∀ p, p < n → F p = G p) : rsum F n = rsum G n := by
  induction n with
  | zero => rfl
  | succ n ih => rw [rsum, rsum, ih (fun p hp => h p (Nat.lt_succ_of_lt hp)), h n (Nat.lt_succ_self n)]
/-- the place in the row of the owner i -/
def plc (ρ : Nat → Nat) (i : Nat) : Nat → Nat
  | 0 => 0
  | k + 1 => if ρ k = i then k else plc ρ i k
theorem plc_at {ρ : Nat → Nat} {L q : Nat} (hinj : ∀ p q, p < q → q < L → ρ p ≠ ρ q) (hq : q < L) : plc ρ (ρ q) L = q := by
  induction L with
  | zero => omega
  | succ L ih =>
    rw [plc]
    by_cases h : q = L
    · subst h; rw [if_pos rfl]
    · rw [if_neg (fun z => hinj q L (by omega) (by omega) z.symm)]
      exact ih (fun p q h1 h2 => hinj p q h1 (by omega)) (by omega)
def bwlDig (f g : Int32 → Int32) (d : Int64) : Nat → Int64
  | 0 => d
  | i + 1 => (bwlDig f g d i * 31 + (f (nI (720 * i))).toInt64) * 31 + (g (nI (720 * i))).toInt64
def lstDig (f : Nat → Int32) (c : Nat) (d : Int64) : Nat → Int64
  | 0 => d
  | i + 1 => digM (fun j => f (i * 4 + j)) (lstDig f c d i) c
end
section
theorem rsum_le {F : Nat → Int32} {b : Nat} {n : Nat} (h : ∀ p, p < n → ∃ v, v ≤ b ∧ F p = nI v) : ∃ a, a ≤ b * n ∧ rsum F n = nI a := by
  induction n with
  | zero => exact ⟨0, by omega, rfl⟩
  | succ n ih =>
    obtain ⟨a, h1, h2⟩ := ih (fun p hp => h p (Nat.lt_succ_of_lt hp))
    obtain ⟨v, h3, h4⟩ := h n (Nat.lt_succ_self n)
    exact ⟨a + v, by rw [Nat.mul_succ]; omega, by rw [rsum, h2, h4, nI_add]⟩
theorem mean_ok {F : Nat → Int32} {n : Nat} (h : ∀ p, p < n → ∃ v, v ≤ 99 ∧ F p = nI v) (hn : n ≤ 10) (h0 : 0 < n) : vf_n64 (FP.ddiv (FP.i2d (rsum F n)) (FP.i2d (nI n))) := by
  obtain ⟨a, h1, h2⟩ := rsum_le h
  obtain ⟨b, rfl⟩ : ∃ b, n = b + 1 := ⟨n - 1, by omega⟩
  rw [h2]
  exact fp_ok a (by omega) b (by omega)
end
section
/-! what is made: an object, a row of ints, a row of owners, a row of rows -/
section MAL
variable {Γ : mC} {κ : mKp} {Q : State → Prop} {kc ks n : Nat} {sh : mSh} {P : mPt} {D : mDt} {E : mEt} {lv : List (Nat × Value)} {st : List Value} {pc : Nat} {own : String} {cc : ByteArray} {nL : Nat} {ret : Option FieldType} {R : Room}
theorem va_newAt {p : Program} {l : Launch} {e : Env} {R : Room} {s : State} {m : MethodId} {args : Array Value} {below : List Frame} {meth : Method} {c0 : Code} {H : Heap} {locs : List Loc} {cells slots : Nat} {Q : State → Prop} {cc : ByteArray} {pc : Nat} {ls : Array Slot} {rest : List Value} {D : va_G} {cl : List vw_C} {tys : List (ClassId × FieldType)} (hexec : p.tables.exec = Jvm.exec) (hb : c0.code = cc) {own C : String} {T : u_T} {N ci index : Nat} {Ts : List Cond} (hts : ∀ w ∈ Ts, w.before args s = true) (hin : ∀ w ∈ u_ws C T N, w ∈ Ts) (ty : Nat → FieldType) (hty : ∀ k, k < N → parseFieldDescriptor (T k).2.2.1 = some (ty k)) (hown : s.vm.findClass own = some m.cls) (hcl : (Cond.classLink own index C).before args s = true) (hinst : (Cond.instantiable C N).before args s = true) (hini : (Cond.initialized C).before args s = true)
    (hK : va_K D cl tys s) (hc : cl[ci]? = some (C, T, N)) {fs : List Value} (hfs : ∀ j, j < N → defaultValue (ty j) = vp_V fs j) (hcells : cells + 1 ≤ R.cells) (hslots : slots + N ≤ R.slots) (hdg : decode cc pc = .ok (.new index, 3))
    (kk : ∀ (H1 : Heap), va_at D cl (H.size, .inr (ci, fs)) H1 → H1.size = H.size + 1 → (∀ q : Nat, q < H.size → H1[q]? = H[q]?) →
      W p l e R s m args below meth c0 H1 locs (cells + 1) (slots + N) Q (F0 m (pc + 3) ls (.ref H.size :: rest))) : W p l e R s m args below meth c0 H locs cells slots Q (F0 m pc ls rest) := by
  have hKn := hK.1 ci _ hc
  refine W.newcK hexec hb hown hcl hinst hini rfl hdg hcells hslots hKn.2.1 rfl fun H1 kC hkC e1 z1 o1 => ?_
  exact kk H1 ⟨_, hc, (u_born ty hts hin hKn hkC e1 hty).to hfs⟩ z1 o1
end MAL
end
section
/-! a row of rows of ints is made at n: N rows of K ints, at n + 1 .. n + N -/
theorem mu_outer (c : ClassId) (N h0 : Nat) : ∀ i : Nat, Jvm.Free.Multi.outerC c N h0 i = arrV c N (fun j => va_rf (if j < i then some (h0 + 1 + j) else none))
  | 0 => by
    show ({ cls := c, slots := Array.replicate N .null, vm := .none } : Cell) = _
    rw [arrV_new]
    refine congrArg (arrV c N) (funext fun j => ?_)
    simp [va_rf]
  | i + 1 => by
    show (Jvm.Free.Multi.outerC c N h0 i).setSlot i (.ref (h0 + 1 + i)) = _
    rw [mu_outer c N h0 i, arrV_store]
    refine congrArg (arrV c N) (funext fun j => ?_)
    by_cases e : j = i
    · subst e
      simp [updV, va_rf]
    · by_cases h : j < i
      · simp [updV, e, h, Nat.lt_succ_of_lt h]
      · simp [updV, e, h, show ¬ j < i + 1 by omega]
theorem mSelf (vm : Vm) (c : ClassId) : vm.assignable c c = true := by
  unfold Vm.assignable
  rw [show (256 : Nat) = 255 + 1 from rfl, Vm.assignableAux]
  simp
section MMU
variable {Γ : mC} {κ : mKp} {Q : State → Prop} {kc ks n : Nat} {sh : mSh} {P : mPt} {D : mDt} {E : mEt} {lv : List (Nat × Value)} {st : List Value} {pc : Nat} {own : String} {cc : ByteArray} {nL : Nat} {ret : Option FieldType} {R : Room}
end MMU
end
section

end
section

end
section
/-! what the class keeps from call to call -/
/-- one owner's row: coins within C either way, dates within T -/
def rB (C T : Nat) (x : Nat → Int32) : Prop := (-(C : Int) ≤ (x 3).toInt ∧ (x 3).toInt ≤ C) ∧ (∃ p, p ≤ 200 ∧ x 4 = nI p ∧ ∃ q, q ≤ p ∧ x 9 = nI q) ∧ (∃ w, w ≤ 20 ∧ x 5 = nI w) ∧ (∃ w, w ≤ 99 ∧ x 6 = nI w) ∧ (∃ w, w ≤ 99 ∧ x 7 = nI w) ∧ (∃ w, w ≤ T ∧ x 8 = nI w)
def nsm (f : Nat → Nat) : Nat → Nat
  | 0 => 0
  | k + 1 => nsm f k + f k
theorem nsm_le {f : Nat → Nat} {L p : Nat} (hp : p < L) : f p ≤ nsm f L := by
  induction L with
  | zero => omega
  | succ L ih =>
    rw [nsm]
    by_cases q : p = L
    · subst q; omega
    · have := ih (by omega); omega
theorem nsm_mono {f : Nat → Nat} {L p : Nat} (hp : p ≤ L) : nsm f p ≤ nsm f L := by
  induction L with
  | zero => have : p = 0 := by omega
            subst this; exact Nat.le_refl _
  | succ L ih =>
    by_cases q : p = L + 1
    · subst q; exact Nat.le_refl _
    · have := ih (by omega); rw [nsm]; omega
theorem nsm_cg {f g : Nat → Nat} {L : Nat} (h : ∀ p, p < L → f p = g p) : nsm f L = nsm g L := by
  induction L with
  | zero => rfl
  | succ L ih => rw [nsm, nsm, ih (fun p hp => h p (by omega)), h L (by omega)]
theorem nsm_upd {b : Nat → Nat} {ρ : Nat → Nat} {v : Nat} : ∀ {L p : Nat}, (∀ p q, p < q → q < L → ρ p ≠ ρ q) → p < L → nsm (fun z => if ρ z = ρ p then v else b (ρ z)) L + b (ρ p) = nsm (fun z => b (ρ z)) L + v := by
  intro L
  induction L with
  | zero => intro p _ hp; omega
  | succ L ih =>
    intro p hinj hp
    rw [nsm, nsm]
    by_cases q : p = L
    · subst q
      rw [if_pos rfl, nsm_cg (g := fun z => b (ρ z)) (fun z hz => if_neg (hinj z p hz (by omega)))]
      omega
    · have h1 := ih (fun p q h1 h2 => hinj p q h1 (by omega)) (show p < L by omega)
      rw [if_neg (fun z => hinj p L (by omega) (by omega) z.symm)]
      omega
theorem rsum_nsm {F : Nat → Int32} {f : Nat → Nat} {L : Nat} (h : ∀ p, p < L → F p = nI (f p)) : ∀ p, p ≤ L → rsum F p = nI (nsm f p) := by
  intro p
  induction p with
  | zero => intro _; rfl
  | succ p ih => intro hp; rw [rsum, nsm, ih (by omega), h p (by omega), nI_add]
theorem rB_ge {C C' T T' : Nat} {x : Nat → Int32} (h : rB C T x) (hC : C ≤ C') (hT : T ≤ T') : rB C' T' x := by
  obtain ⟨⟨h1, h2⟩, h3, h4, h5, h6, w, h7, h8⟩ := h
  exact ⟨⟨by omega, by omega⟩, h3, h4, h5, h6, w, by omega, h8⟩
theorem rB_o {C T : Nat} {x : Nat → Int32} {j : Nat} {v : Int32} (h : rB C T x) (hj : j < 3 ∨ 9 < j) : rB C T (upd x j v) := by
  have e : ∀ z, z ≠ j → upd x j v z = x z := fun z hz => by simp [upd, hz]
  unfold rB
  rw [e 3 (by omega), e 4 (by omega), e 9 (by omega), e 5 (by omega), e 6 (by omega), e 7 (by omega), e 8 (by omega)]
  exact h
theorem rB_eq {C T : Nat} {x y : Nat → Int32} (h : rB C T x) (e : ∀ j, 3 ≤ j → j < 10 → y j = x j) : rB C T y := by
  unfold rB
  rw [e 3 (by decide) (by decide), e 4 (by decide) (by decide), e 9 (by decide) (by decide), e 5 (by decide) (by decide), e 6 (by decide) (by decide), e 7 (by decide) (by decide), e 8 (by decide) (by decide)]
  exact h
theorem rB_3 {C C' T : Nat} {x : Nat → Int32} {v : Int32} (h : rB C T x) (hv : -(C' : Int) ≤ v.toInt ∧ v.toInt ≤ C') : rB C' T (upd x 3 v) := by
  have e : ∀ z, z ≠ 3 → upd x 3 v z = x z := fun z hz => by simp [upd, hz]
  have e3 : upd x 3 v 3 = v := by simp [upd]
  obtain ⟨h1, h3⟩ := h
  unfold rB
  rw [e3, e 4 (by omega), e 9 (by omega), e 5 (by omega), e 6 (by omega), e 7 (by omega), e 8 (by omega)]
  exact ⟨hv, h3⟩
theorem rB_8 {C T T' : Nat} {x : Nat → Int32} {w : Nat} (h : rB C T x) (hw : w ≤ T') : rB C T' (upd x 8 (nI w)) := by
  have e : ∀ z, z ≠ 8 → upd x 8 (nI w) z = x z := fun z hz => by simp [upd, hz]
  have e8 : upd x 8 (nI w) 8 = nI w := by simp [upd]
  obtain ⟨h1, h3, h4, h5, h6, -⟩ := h
  unfold rB
  rw [e8, e 3 (by omega), e 4 (by omega), e 9 (by omega), e 5 (by omega), e 6 (by omega), e 7 (by omega)]
  exact ⟨h1, h3, h4, h5, h6, w, hw, rfl⟩
theorem ti_nI {a : Nat} (h : a < 2 ^ 31) : (nI a).toInt = a := nI_toInt h
section GI
variable {o L e m k dd c : Nat} {ρ : Nat → Nat} {V V' : mDt}
theorem coin_w {w : Int32} {a b : Int32} {C : Nat} (h : wP w a b) (ha : -(C : Int) ≤ a.toInt) (hb : b.toInt ≤ C) : -(C : Int) ≤ w.toInt ∧ w.toInt ≤ C := by
  obtain ⟨h1, h2⟩ := h
  rw [Int32.le_iff_toInt_le] at h1 h2
  exact ⟨by omega, by omega⟩
theorem amt_ok {f : Nat → Int32} {x : Int32} {cl : Nat} : ∀ {m : Nat}, (∀ i, i < m → ∃ a, a ≤ 5040 ∧ f (i * 4 + 2) = nI a) → ∃ A, A ≤ 5040 * m ∧ amtF f cl x m = nI A := by
  intro m
  induction m with
  | zero => intro _; exact ⟨0, by omega, rfl⟩
  | succ m ih =>
    intro h
    obtain ⟨A, hA, eA⟩ := ih (fun i hi => h i (by omega))
    obtain ⟨a, ha, ea⟩ := h m (by omega)
    rw [amtF]
    split
    · exact ⟨A + a, by omega, by rw [eA, ea, nI_add]⟩
    · exact ⟨A, by omega, eA⟩
end GI
end
section
section GI2
variable {o L e m k dd c : Nat} {ρ : Nat → Nat} {V V' : mDt}
theorem dOk_add {f : Nat → Int32} {x y w z : Int32} (h : dOk f m) (hm : m < 8) (hx : toN x < 10 ∧ x = nI (toN x)) (hy : toN y < 10 ∧ y = nI (toN y)) : dOk (addF f m x y w z) (m + 1) := by
  rw [dOk_dls, dls_add]
  refine ⟨by omega, fun r hr => ?_⟩
  rw [List.mem_append] at hr
  rcases hr with hr | hr
  · exact (dOk_dls.1 h).2 r hr
  · rw [List.mem_singleton] at hr
    subst hr
    exact ⟨hx, hy⟩
end GI2
end
section
theorem nsm_add {f : Nat → Nat} {a : Nat} : ∀ {b : Nat}, nsm f (a + b) = nsm f a + nsm (fun i => f (a + i)) b := by
  intro b
  induction b with
  | zero => rfl
  | succ b ih => rw [← Nat.add_assoc, nsm, nsm, ih]; omega
theorem nsm_bd {f : Nat → Nat} {B : Nat} : ∀ {n : Nat}, (∀ i, i < n → f i ≤ B) → nsm f n ≤ B * n := by
  intro n
  induction n with
  | zero => intro _; exact Nat.zero_le _
  | succ n ih =>
    intro h
    have h1 := ih (fun i hi => h i (by omega))
    have h2 := h n (by omega)
    rw [nsm, Nat.mul_succ]; omega
section GI3
variable {o L e m k dd c q hc : Nat} {ρ : Nat → Nat} {V V' : mDt}
theorem heir_in (hc1 : 1 ≤ hc) {p : Nat} (hp : p < L) (hq : q < L) (hne : p ≠ q) : ∃ z, z < L + hc - 1 ∧ heirRow ρ q hc e z = ρ p := by
  by_cases h : p < q
  · exact ⟨p, by omega, by rw [heirRow, if_pos h]⟩
  · exact ⟨p + hc - 1, by omega, by rw [heirRow, if_neg (by omega), if_neg (by omega)]; congr 1; omega⟩
theorem heir_new (hq : q < L) {i : Nat} (hi : i < hc) : q + i < L + hc - 1 ∧ heirRow ρ q hc e (q + i) = e + i :=
  ⟨by omega, by rw [heirRow, if_neg (by omega), if_pos (by omega)]; congr 1; omega⟩
theorem heir_cases (hq : q < L) (hc1 : 1 ≤ hc) {p : Nat} (hp : p < L + hc - 1) : (∃ z, z < L ∧ z ≠ q ∧ heirRow ρ q hc e p = ρ z ∧ ((p < q ∧ z = p) ∨ (q + hc ≤ p ∧ z = p + 1 - hc))) ∨ (∃ i, i < hc ∧ heirRow ρ q hc e p = e + i ∧ p = q + i) := by
  by_cases h : p < q
  · exact Or.inl ⟨p, by omega, by omega, by rw [heirRow, if_pos h], Or.inl ⟨h, rfl⟩⟩
  · by_cases h2 : p < q + hc
    · exact Or.inr ⟨p - q, by omega, by rw [heirRow, if_neg h, if_pos h2], by omega⟩
    · exact Or.inl ⟨p + 1 - hc, by omega, by omega, by rw [heirRow, if_neg h, if_neg h2], Or.inr ⟨by omega, rfl⟩⟩
theorem heir_inj (hq : q < L) (hc1 : 1 ≤ hc) (hinj : ∀ p q, p < q → q < L → ρ p ≠ ρ q) (hρ : ∀ p, p < L → ρ p < e) : ∀ p p', p < p' → p' < L + hc - 1 → heirRow ρ q hc e p ≠ heirRow ρ q hc e p' := by
  intro p p' h1 h2
  rcases heir_cases (ρ := ρ) (e := e) hq hc1 (show p < L + hc - 1 by omega) with ⟨z, a1, a2, a3, a4⟩ | ⟨i, a1, a2, a3⟩ <;> rcases heir_cases (ρ := ρ) (e := e) hq hc1 h2 with ⟨z', b1, b2, b3, b4⟩ | ⟨i', b1, b2, b3⟩
  · rw [a3, b3]; exact hinj _ _ (by omega) b1
  · rw [a3, b2]; have := hρ z a1; omega
  · rw [a2, b3]; have := hρ z' b1; omega
  · rw [a2, b2]; omega
end GI3
end
section
/-! days -/
theorem dv_bd {a : Int32} {b : Nat} (hb : 20 ≤ b) (hb2 : b ≤ 4000) : -107374183 ≤ (a / nI b).toInt ∧ (a / nI b).toInt ≤ 107374183 := by
  have e : (a / nI b).toInt = a.toInt.tdiv b := by
    rw [Int32.toInt_div_of_ne_right, nI_toInt (by omega)]
    intro h
    have h1 : (nI b).toInt = (-1 : Int32).toInt := by rw [h]
    rw [nI_toInt (by omega), show (-1 : Int32).toInt = -1 from rfl] at h1
    omega
  rw [e]
  have h1 := a.le_toInt
  have h2 := a.toInt_lt
  have hn : (a.toInt.tdiv b).natAbs ≤ 107374183 := by
    rw [Int.natAbs_tdiv]
    have h3 : a.toInt.natAbs ≤ 2147483648 := by omega
    have h4 : a.toInt.natAbs / (b : Int).natAbs ≤ 2147483648 / 20 := Nat.le_trans (Nat.div_le_div_right h3) (Nat.div_le_div_left (by omega) (by omega))
    exact Nat.le_trans h4 (by decide)
  omega
theorem ex_nI {x : Int32} {b : Nat} (h0 : 0 ≤ x.toInt) (h1 : x.toInt ≤ b) : ∃ w, w ≤ b ∧ x = nI w := by
  have := x.toInt_lt
  exact ⟨x.toInt.toNat, by omega, Int32.toInt_inj.1 (by rw [nI_toInt (by omega)]; omega)⟩
theorem palm_bd {C T : Nat} {x : Nat → Int32} (h : rB C T x) : ∃ w, w ≤ 1980 ∧ palmReap x = nI w := by
  obtain ⟨-, ⟨p, hp, -, q, hq, e9⟩, -, ⟨w6, h6, e6⟩, ⟨w7, h7, e7⟩, -⟩ := h
  have hb : q * w6 * (100 - w7) ≤ 1980000 := by
    have h1 : q * w6 ≤ 200 * 99 := Nat.mul_le_mul (by omega) h6
    have h2 : q * w6 * (100 - w7) ≤ 200 * 99 * 100 := Nat.mul_le_mul h1 (by omega)
    omega
  refine ⟨q * w6 * (100 - w7) / 1000, by omega, ?_⟩
  rw [palmReap, e9, e6, e7, show (100 : Int32) = nI 100 from rfl, nI_sub (by omega), nI_mul, nI_mul, show (1000 : Int32) = nI 1000 from rfl, nI_div (by omega) (by omega)]
theorem rB_reap {C T : Nat} {x : Nat → Int32} (h : rB C T x) : rB C (T + 1980) (reapX x) := by
  obtain ⟨z, hz, ez⟩ := palm_bd h
  obtain ⟨h3, ⟨p, hp, e4, q, hq, e9⟩, h5, h6, h7, w, hw, e8⟩ := h
  exact ⟨h3, ⟨p, hp, e4, 0, by omega, rfl⟩, h5, h6, h7, w + z, by omega, by show x 8 + palmReap x = _; rw [e8, ez, nI_add]⟩
section GI4
variable {o L e m k dd c C T : Nat} {ρ : Nat → Nat} {V V' : mDt}
end GI4
end
section
/-! what all pay for -/
theorem share_nI {cst w A : Nat} (h1 : cst ≤ 1120) (h2 : w ≤ A) (h3 : 1 ≤ A) (h4 : A ≤ 5040) : cst * w / A ≤ cst ∧ nI cst * nI w / nI A = nI (cst * w / A) := by
  have hm : cst * w ≤ cst * A := Nat.mul_le_mul_left _ h2
  have hm2 : cst * w ≤ 1120 * 5040 := Nat.mul_le_mul h1 (by omega)
  exact ⟨Nat.div_le_of_le_mul (by rw [Nat.mul_comm A]; exact hm), by rw [nI_mul, nI_div (by omega) (by omega)]⟩
section GI5
variable {o L e m k dd c : Nat} {ρ : Nat → Nat} {V V' : mDt}
/-! what of it the asking needs -/
end GI5
end
