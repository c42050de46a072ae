/-! the law's own methods: they catch what the class throws -/
def mNg (U : State) : Prop := va_Nc xS xA U ∧ va_Nc xI xA U ∧ va_Nc xA xS U ∧ va_Nc xI xS U ∧ va_Nc xA xI U ∧ va_Nc xS xI U
theorem mNg_moved {u U : State} (hvm : u.vm.Alike U.vm) (h : mNg u) : mNg U := ⟨h.1.moved hvm, h.2.1.moved hvm, h.2.2.1.moved hvm, h.2.2.2.1.moved hvm, h.2.2.2.2.1.moved hvm, h.2.2.2.2.2.moved hvm⟩
def mPreT (G : va_G) (Y : Nat → ClassId) (base n : Nat) (sh : mSh) (P : mPt) (D : mDt) (E : mEt) (U : State) : Prop := mPreX G Y base n sh P D E U ∧ mNg U
def mWMet (κ : mKp) (y : MethodName) (cc : ByteArray) (nL : Nat) (ret : Option FieldType) (hh : List (Nat × Nat × Nat × Nat)) (rm : Room) (As : List Value) (n : Nat) (sh : mSh) (P : mPt) (D : mDt) (E : mEt) (post : mPost) : Prop := match κ with
  | (l, G, Y, base) => Met l y (.codeWith y cc nL ret hh :: mW) rm (va_Pc As (mPreT G Y base n sh P D E)) (mQ G Y base post) rm.cells rm.slots (fun q => base ≤ q)
def mOkT (Γ : mC) (hh : List (Nat × Nat × Nat × Nat)) : Prop := match Γ with
  | ((p, l, e, R, s, m, args, below, meth, c), (G, Y, base)) => c.exceptionTable.toList = tableOf hh ∧ mPx base s ∧ mNg s
def mOkN (Γ : mC) : Prop := match Γ with
  | ((p, l, e, R, s, m, args, below, meth, c), (G, Y, base)) => mPx base s ∧ mNg s
theorem mH_ofW {l : Launch} {y : MethodName} {ws ws' : List Cond} {rm : Room} {Pc : Array Value → State → Prop} {Qc : Array Value → State → Outcome → State → Prop} {mc ms : Nat} {free : Addr → Prop} {cc : ByteArray} {maxL : Nat} {ret : Option FieldType} {hh : List (Nat × Nat × Nat × Nat)}
    (hy : plainName y.cls = true) (hw : ws = Cond.codeWith y cc maxL ret hh :: ws')
    (body : ∀ p e s m args below meth c s₁, BodyLoose p l y (headSpec ws rm) cc maxL ret e s m args below meth c s₁ → c.maxLocals = maxL → Pc args s →
      W p l e (headSpec ws rm).room s m args below meth c s.heap [] 0 0 (MQ below Qc args s mc ms free) (entryFrame m args maxL)) : Met l y ws rm Pc Qc mc ms free := by
  refine MetFree.of_bodyS (code := cc) (maxLocals := maxL) (ret := ret) hy ?_ ?_
  · intro args s m h hn
    obtain ⟨m9, meth, c, hn9, h1, h2, h3, h4, -, h5, h6, -⟩ := Cond.codeWith_spec (atoms_spec (ws := ws) h _ (by rw [hw]; exact List.mem_cons_self))
    cases hn.symm.trans hn9
    exact ⟨meth, c, h1, h2, h3, h4, h5, h6⟩
  · intro p e s m args below meth c s₁ B hml hP _
    have hh0 : s₁.heap = s.heap := by rw [B.state]; rfl
    obtain ⟨t, a1, o, b1, b2, b3⟩ := body p e s m args below meth c s₁ B hml hP s₁ hh0 (Stand.of_body B)
    exact ⟨t, o, a1, b1, b2, ⟨b3.1, b3.2⟩⟩
theorem mWMet_of {κ : mKp} {y : MethodName} {cc : ByteArray} {nL : Nat} {ret : Option FieldType} {hh : List (Nat × Nat × Nat × Nat)} {rm : Room} {As : List Value} {n : Nat} {sh : mSh} {P : mPt} {D : mDt} {E : mEt} {post : mPost} (hy : plainName y.cls = true) (hlen : (lg_sl As).length ≤ nL)
    (body : ∀ (Γ : mC) (Q : State → Prop), Q = mEnd Γ post rm.cells rm.slots → mOk Γ κ y.cls cc nL ret rm → mOkT Γ hh → mV Γ Q 0 0 n sh P D E (lv_args 0 As) [] 0) : mWMet κ y cc nL ret hh rm As n sh P D E post := by
  obtain ⟨l, G, Y, base⟩ := κ
  refine mH_ofW (cc := cc) (maxL := nL) (ret := ret) (hh := hh) hy rfl ?_
  intro p e s m args below meth c s₁ B hml hv
  obtain ⟨rfl, ⟨⟨hK, hbn, hR⟩, hPx⟩, hNg⟩ := hv
  have hts := atoms_spec (ws := Cond.codeWith y cc nL ret hh :: mW) B.pre
  have hown : s.vm.findClass y.cls = some m.cls := findClass_of_methodNamed B.named
  have hbs : base ≤ s.heap.size := by rw [hR.1]; exact hbn
  have htab := vx_table (x := y) B (hts _ List.mem_cons_self)
  have hok : mOk ((p, l, e, (headSpec (Cond.codeWith y cc nL ret hh :: mW) rm).room, s, m, As.toArray, below, meth, c), (G, Y, base)) (l, G, Y, base) y.cls cc nL ret rm := ⟨B.exec, B.bytes, hml, hown, fun w hw => hts w (List.mem_cons_of_mem _ hw), hK, B.notSynchronized, B.returns, rfl, hbs, rfl⟩
  have hl := lv_entry As (n := nL) hlen
  rw [lg_entry_eq]
  have hb0 := body _ _ rfl hok ⟨htab, hPx, hNg⟩ s.heap [] _ hR va_S.rf (show lv_has _ c.maxLocals _ by rw [hml]; exact hl)
  exact hb0
/-- the handler for the exception whose class stands at the link cx -/
def selH : List (Nat × Nat × Nat × Nat) → Nat → Option Nat
  | [], _ => none
  | z :: r, cx => if z.2.2.2 = cx then some z.2.2.1 else selH r cx
def nmC (cx : Nat) : String := if cx = 13 then xA else if cx = 15 then xS else xI
theorem nmC_link {cx : Nat} (h : cx = 13 ∨ cx = 15 ∨ cx = 20) : Cond.classLink RL cx (nmC cx) ∈ mW := by
  rcases h with rfl | rfl | rfl
  · exact qK_L_13
  · exact qK_L_15
  · exact qK_L_20
theorem nmC_ng {cx cy : Nat} (h : cx = 13 ∨ cx = 15 ∨ cx = 20) (h2 : cy = 13 ∨ cy = 15 ∨ cy = 20) (hne : cy ≠ cx) {U : State} (hN : mNg U) : va_Nc (nmC cx) (nmC cy) U := by
  rcases h with rfl | rfl | rfl <;> rcases h2 with rfl | rfl | rfl
  · exact absurd rfl hne
  · exact hN.2.2.1
  · exact hN.2.2.2.2.1
  · exact hN.1
  · exact absurd rfl hne
  · exact hN.2.2.2.2.2
  · exact hN.2.1
  · exact hN.2.2.2.1
  · exact absurd rfl hne
theorem nmC_cast {cx : Nat} (h : cx = 13 ∨ cx = 15 ∨ cx = 20) : Cond.castable (nmC cx) (nmC cx) ∈ mNestX := by
  rcases h with rfl | rfl | rfl
  · show Cond.castable xA xA ∈ mNestX; decide +kernel
  · show Cond.castable xS xS ∈ mNestX; decide +kernel
  · show Cond.castable xI xI ∈ mNestX; decide +kernel
theorem sel_split {cx : Nat} (hcx : cx = 13 ∨ cx = 15 ∨ cx = 20) {pc hpc : Nat} {U : State} (hN : mNg U) : ∀ (hh : List (Nat × Nat × Nat × Nat)), (∀ z ∈ hh, z.1 ≤ pc ∧ pc < z.2.1 ∧ (z.2.2.2 = 13 ∨ z.2.2.2 = 15 ∨ z.2.2.2 = 20)) → selH hh cx = some hpc → ∃ (pre : List ExceptionTableEntry) (x : ExceptionTableEntry) (suf : List ExceptionTableEntry), tableOf hh = pre ++ x :: suf ∧ (∀ z ∈ pre, z.catchType ≠ 0 ∧ (z.catchType = 13 ∨ z.catchType = 15 ∨ z.catchType = 20) ∧ z.catchType ≠ cx) ∧ covers x pc = true ∧ x.catchType = cx ∧ x.handlerPc = hpc := by
  intro hh
  induction hh with
  | nil => intro _ h; cases h
  | cons z r ih =>
    intro hall h
    obtain ⟨h1, h2, h3⟩ := hall z List.mem_cons_self
    rw [selH] at h
    by_cases q : z.2.2.2 = cx
    · rw [if_pos q] at h
      exact ⟨[], ⟨z.1, z.2.1, z.2.2.1, z.2.2.2⟩, tableOf r, rfl, fun _ hz => absurd hz List.not_mem_nil, by simp [covers, h1, h2], q, Option.some.inj h⟩
    · rw [if_neg q] at h
      obtain ⟨pre, x, suf, e1, e2, e3, e4, e5⟩ := ih (fun w hw => hall w (List.mem_cons_of_mem _ hw)) h
      refine ⟨⟨z.1, z.2.1, z.2.2.1, z.2.2.2⟩ :: pre, x, suf, by rw [List.cons_append, ← e1]; rfl, fun w hw => ?_, e3, e4, e5⟩
      rcases List.mem_cons.mp hw with rfl | hw
      · exact ⟨by show z.2.2.2 ≠ 0; omega, h3, q⟩
      · exact e2 w hw
section MT
variable {Γ : mC} {κ : mKp} {Q : State → Prop} {kc ks n : Nat} {sh : mSh} {P : mPt} {D : mDt} {E : mEt} {lv : List (Nat × Value)} {st : List Value} {pc : Nat} {own : String} {cc : ByteArray} {nL : Nat} {ret : Option FieldType} {R : Room} {post : mPost} {hh : List (Nat × Nat × Nat × Nat)}
/-- a call that may throw, from a method that catches it -/
theorem T_callV (h : mOk Γ κ RL cc nL ret R) (hT : mOkT Γ hh) (pc' : Nat) {y : MethodName} {cc2 : ByteArray} {nL2 : Nat} {ret2 : Option FieldType} {rm : Room} {idx : Nat} {As stk : List Value} {post1 : mPost} {px1 : mXP} {ci b N : Nat} {T : u_T} (hM : mXMet κ y cc2 nL2 ret2 rm (.ref b :: As) n sh P D E post1 px1) (hC : vwCl[ci]? = some (y.cls, T, N)) (hs : sh b = some (.inl ci)) (w1 : Cond.methodLink RL idx y ∈ mW) (w2 : Cond.instanceMethod y ∈ mW) (w3 : Cond.selects y.cls y y ∈ mW) (w4 : Cond.initialized y.cls ∈ mW) (w5 : Cond.code y cc2 nL2 ret2 ∈ mW) (hd : y.cls ≠ "java/lang/invoke/MethodHandle" ∧ y.cls ≠ "java/lang/invoke/VarHandle" ∧ (parseMethodDescriptor y.desc).map (fun d => d.parameters.length) = some As.length) (hR : rm.frames + 1 ≤ R.frames ∧ 8 + (nL2 + 11) + rm.locals ≤ R.locals) (hcat : (st.map fun v => v.category).sum ≤ 8) (hp : pc + 3 = pc') (hstk : stk = As.reverse ++ .ref b :: st) (d : decode cc pc = .ok (.invokevirtual idx, 3)) (hroom : kc + rm.cells ≤ R.cells ∧ ks + rm.slots ≤ R.slots)
    (hall : ∀ z ∈ hh, z.1 ≤ pc ∧ pc < z.2.1 ∧ (z.2.2.2 = 13 ∨ z.2.2.2 = 15 ∨ z.2.2.2 = 20))
    (kk : ∀ (v : Option Value) (n' : Nat) (sh' : mSh) (P' : mPt) (D' : mDt) (E' : mEt), post1 v n' sh' P' D' E' → mV Γ Q (kc + rm.cells) (ks + rm.slots) n' sh' P' D' E' lv (v.toList ++ st) pc')
    (kx : ∀ (X : String) (n' : Nat) (sh' : mSh) (P' : mPt) (D' : mDt) (E' : mEt), px1 X n' sh' P' D' E' → ∃ cx hpc, (cx = 13 ∨ cx = 15 ∨ cx = 20) ∧ X = nmC cx ∧ selH hh cx = some hpc ∧ ∀ q9, mV Γ Q (kc + rm.cells) (ks + rm.slots) n' sh' P' D' E' lv [.ref q9] hpc) : mV Γ Q kc ks n sh P D E lv stk pc := by
  obtain ⟨⟨p, l, e, R0, s, m, args, below, meth, c⟩, G, Y, base⟩ := Γ
  obtain ⟨hx, hb, hml, hown, hts, hK, hlk, hrt, hR, hbs, hκ⟩ := h
  obtain ⟨htab, hPx, hNg⟩ := hT
  subst hp
  subst hκ
  subst hR
  intro H locs ls hR1 hS hl
  have hr := vx_runV (p := p) (R := R0) (e := e) (below := below) (meth := meth) (slots := ks) (cells := kc) (locs := locs) (As := As) (rest := st) (nL := nL) (n := As.length) (Ts := mW) (g := F0 m pc ls stk) ⟨hx, hb, hml, hown, hts⟩ hM ⟨callB_of As.length hts (mGood w5) rfl rfl rfl (hts _ w4) (hts _ w1) hd hR, hts _ w2, hts _ w3⟩ ⟨mBlindX, va_recv hK.1 (mR_one hR1 hs) (ci := ci) (q0 := 0) hC rfl, mPreXOf hK hbs hS hR1 hPx⟩ rfl rfl (by rw [← hml]; exact hl.1) hstk (lv_room hcat) d hroom
  intro T1 hT1 X1
  rcases hr T1 hT1 X1 with ⟨v, st₀, t, T', L, h0, X', hL, e1, e2, ⟨⟨v', n', sh', P', D', E', hv, hpo, hR'⟩, hF⟩, stp⟩ | ⟨q, st₀, t, T', L, X2, ce, h0, X', hL, e1, e2, ⟨⟨n', sh', P', D', E', hpo, hR'⟩, hF⟩, hce, hcv, hcl, stp⟩
  · cases hv
    obtain ⟨-, -, k3⟩ := vx_keep (A1 := fun q => base ≤ q) h0 e1 hS (fun _ _ z => z) (fun _ z => z) hL hF
    obtain ⟨t2, a1, b1⟩ := kk v n' sh' P' D' E' hpo T'.heap (locs ++ L) ls (by rw [e1]; exact hR') k3 hl T' rfl X'
    exact ⟨t2, stp t2 a1, b1⟩
  · obtain ⟨-, -, k3⟩ := vx_keep (A1 := fun q => base ≤ q) h0 e1 hS (fun _ _ z => z) (fun _ z => z) hL hF
    obtain ⟨cx, hpc, hcx, rfl, hsel, kk2⟩ := kx X2 n' sh' P' D' E' hpo
    obtain ⟨pre, x, suf, s1, s2, s3, s4, s5⟩ := sel_split hcx hNg hh hall hsel
    have hcat := vx_catch (rest := st) (pc := pc) (Q := Q) (own := RL) (name := nmC cx) hown pre x suf (htab.trans s1) (fun z hz => Or.inr ⟨(s2 z hz).1, nmC z.catchType, hts _ (nmC_link (s2 z hz).2.1), nmC_ng hcx (s2 z hz).2.1 (s2 z hz).2.2 hNg⟩) s3 (by rw [s4]; omega) (by rw [s4]; exact hts _ (nmC_link hcx)) (va_Nw.use (mNkX_on (mNestX_k _ (nmC_cast hcx))) (hPx.1 _ (nmC_cast hcx))) (H := T'.heap) (by rw [e1]; exact hce) hcv hcl (by rw [s5]; exact kk2 q T'.heap (locs ++ L) ls (by rw [e1]; exact hR') k3 hl)
    obtain ⟨t2, a1, b1⟩ := hcat T' rfl X'
    exact ⟨t2, stp.trans a1, b1⟩
theorem mBlindT {As : List Value} {G : va_G} {Y : Nat → ClassId} {base n : Nat} {sh : mSh} {P : mPt} {D : mDt} {E : mEt} : FrameBlind (va_Pc As (mPreT G Y base n sh P D E)) := fun a U g mk q => by
  obtain ⟨q0, q1, q2⟩ := q
  obtain ⟨-, q3⟩ := mBlindX a U g mk ⟨q0, q1⟩
  exact ⟨q0, q3, mNg_moved (u := U) (U := U.calling g mk a) (Vm.Alike.refl U.vm) q2⟩
theorem mGoodW {own : String} {idx : Nat} {y : MethodName} {cc : ByteArray} {nL : Nat} {ret : Option FieldType} {hh : List (Nat × Nat × Nat × Nat)} (h : Cond.codeWith y cc nL ret hh ∈ mW) (h1 : Cond.methodLink own idx y ∈ mW) (h2 : Cond.static y ∈ mW) (h3 : Cond.initialized y.cls ∈ mW) : GoodIn mW (va_wsS own idx y (.codeWith y cc nL ret hh :: mW)) := by
  intro w hw
  have hm : w ∈ mW := by
    unfold va_wsS at hw
    rcases List.mem_append.mp hw with h9 | h9
    · rcases List.mem_cons.mp h9 with rfl | h9
      · exact h1
      · rcases List.mem_cons.mp h9 with rfl | h9
        · exact h2
        · rcases List.mem_cons.mp h9 with rfl | h9
          · exact h3
          · cases h9
    · rcases List.mem_cons.mp h9 with rfl | h9
      · exact h
      · exact h9
  exact ⟨hm, good_of_word (mWgood hm)⟩
/-- the law calls one of its own -/
theorem V_callSW (h : mOk Γ κ RL cc nL ret R) (hNgΓ : mOkN Γ) (pc' : Nat) {y : MethodName} {cc2 : ByteArray} {nL2 : Nat} {ret2 : Option FieldType} {h2 : List (Nat × Nat × Nat × Nat)} {rm : Room} {idx : Nat} {As stk : List Value} (hM : mWMet κ y cc2 nL2 ret2 h2 rm As n sh P D E post) (w1 : Cond.methodLink RL idx y ∈ mW) (w2 : Cond.static y ∈ mW) (w4 : Cond.initialized y.cls ∈ mW) (w5 : Cond.codeWith y cc2 nL2 ret2 h2 ∈ mW) (hd : y.cls ≠ "java/lang/invoke/MethodHandle" ∧ y.cls ≠ "java/lang/invoke/VarHandle" ∧ (parseMethodDescriptor y.desc).map (fun d => d.parameters.length) = some As.length) (hR : rm.frames + 1 ≤ R.frames ∧ 8 + (nL2 + 11) + rm.locals ≤ R.locals) (hcat : (st.map fun v => v.category).sum ≤ 8) (hp : pc + 3 = pc') (hstk : stk = As.reverse ++ st) (d : decode cc pc = .ok (.invokestatic idx, 3)) (hroom : kc + rm.cells ≤ R.cells ∧ ks + rm.slots ≤ R.slots) (kk : ∀ (v : Option Value) (n' : Nat) (sh' : mSh) (P' : mPt) (D' : mDt) (E' : mEt), post v n' sh' P' D' E' → mV Γ Q (kc + rm.cells) (ks + rm.slots) n' sh' P' D' E' lv (v.toList ++ st) pc') : mV Γ Q kc ks n sh P D E lv stk pc := by
  obtain ⟨⟨p, l, e, R0, s, m, args, below, meth, c⟩, G, Y, base⟩ := Γ
  obtain ⟨hx, hb, hml, hown, hts, hK, hlk, hrt, hR, hbs, hκ⟩ := h
  obtain ⟨hPx, hNg⟩ := hNgΓ
  subst hκ
  subst hR
  intro H locs ls hR1 hS hl
  refine mAfter (a := As.toArray) hp hS hl ?_ kk
  exact vx_runSW (As := As) (rest := st) (nL := nL) (n := As.length) (Ts := mW) (hh := h2) ⟨hx, hb, hml, hown, hts⟩ hM (vx_cwSW As.length hts (mGoodW w5 w1 w2 w4) rfl rfl rfl hd hR) ⟨mBlindT, fun U hU hW => ⟨rfl, (mPreXOf (As := As) hK hbs hS hR1 hPx U hU hW).2, mNg_moved hW.alike hNg⟩⟩ rfl rfl (by rw [← hml]; exact hl.1) hstk (lv_room hcat) d hroom
theorem mK_long {G : va_G} {Y : Nat → ClassId} {s : State} (h : mKx G Y s) : s.vm.findClass "[J" = some (Y 3) := va_nm_long (h.1.2 3 _ rfl).2
theorem V_newJ (h : mOk Γ κ own cc nL ret R) (pc' n' kc' ks' : Nat) {len : Nat} {i : Int32} (w1 : Cond.arrayClass Jvm.ClassFile.FieldType.long ∈ mW) (hi : i = nI len) (hlen : len * 8 ≤ 536870912) (hcells : kc + 1 ≤ R.cells) (hslots : ks + len ≤ R.slots) (d : decode cc pc = .ok (.newarray .long, 2)) (hp : pc + 2 = pc') (hn : n + 1 = n') (hkc : kc + 1 = kc') (hks : ks + len = ks') (hE : E n = fun _ => 0)
    (kk : mV Γ Q kc' ks' n' (updS sh n (.inr (3, len))) P D E lv (.ref n :: st) pc') : mV Γ Q kc ks n sh P D E lv (.int i :: st) pc := by
  obtain ⟨⟨p, l, e, R0, s, m, args, below, meth, c⟩, G, Y, base⟩ := Γ
  obtain ⟨hx, hb, hml, hown, hts, hK, hlk, hrt, hR, hbs, hκ⟩ := h
  subst hp hn hkc hks
  subst hR
  subst hi
  intro H locs ls hR1 hS hl
  have hl31 : len < 2 ^ 31 := by omega
  refine va_newaK (atype := .long) hx hb (hts _ w1) rfl d rfl (nI_pos hl31) (nI_clamp hl31) hlen hcells hslots rfl fun H1 cA e1 z1 o1 hAr hNm => ?_
  have hcA : cA = Y 3 := by
    have e : "[" ++ (newarray.typeOf .long).toString = "[J" := by decide +kernel
    rw [e] at hNm
    exact Option.some.inj (hNm.symm.trans (mK_long hK))
  subst hcA
  have hz := hR1.1
  rw [hz] at e1 z1 o1 ⊢
  have hb2 : base ≤ n := by rw [← hz]; exact Nat.le_trans hbs hS.1
  refine kk H1 locs ls (mR_new hR1 hb2 z1 ?_ o1 (fun b hb => rfl) (fun b hb => rfl) (fun _ _ => rfl)) ⟨by rw [z1]; have := hS.1; omega, fun x h1 h2 => (o1 x (by have := hS.1; omega)).trans (hS.2.1 x h1 h2), hS.2.2⟩ hl
  show H1[n]? = some (vp_cell (Y 3) (len, .inr (.inl (E n))))
  rw [hE, vp_cell_l]
  exact e1
theorem V_last (h : mOk Γ κ own cc nL ret R) (pc' : Nat) {a len : Nat} (j : Nat) {i : Int32} {x : Int64} (hs : sh a = some (.inr (3, len))) (hi : i = nI j) (hj : j < len) (hlen : len < 2 ^ 31) (d : decode cc pc = .ok (.lastore, 1)) (hp : pc + 1 = pc') (kk : mV Γ Q kc ks n sh P D (updE E a j x) lv st pc') : mV Γ Q kc ks n sh P D E lv (.long x :: .int i :: .ref a :: st) pc := by
  obtain ⟨⟨p, l, e, R0, s, m, args, below, meth, c⟩, G, Y, base⟩ := Γ
  obtain ⟨hx, hb, hml, hown, hts, hK, hlk, hrt, hR, hbs, -⟩ := h
  subst hp
  subst hi
  intro H locs ls hR1 hS hl
  have e1 : (nI j).toNatClampNeg = j := nI_clamp (show j < 2 ^ 31 by omega)
  obtain ⟨hba, hat⟩ := hR1.2 a _ hs
  refine W.last hx hb ((mR_one hR1 hs) 0 _ rfl) ((hK.1.2 3 _ rfl).1 len (fun j => .long (E a j))) (fun q => by cases q) (by show ¬ ((nI j) < 0 ∨ (arrV _ _ _).slots.size ≤ _); rw [arrV_size]; exact vp_in_nI hj hlen) rfl rfl d fun H1 e z oq => ?_
  refine kk H1 _ ls (mR_set hR1 hs z ?_ oq (fun _ _ => rfl) (fun _ _ => rfl) (fun b hb => updE_ra hb)) (hS.put z oq hba) hl
  show H1[a]? = some (vp_cell _ _)
  rw [e, e1, updE_row, vp_cell_l, vp_cell_l, arrV_store]
  congr 2
  funext z
  by_cases hz : z = j <;> simp [updV, vp_updL, hz]
theorem V_lald (h : mOk Γ κ own cc nL ret R) (pc' : Nat) {a len : Nat} (j : Nat) {i : Int32} (hs : sh a = some (.inr (3, len))) (hi : i = nI j) (hj : j < len) (hlen : len < 2 ^ 31) (d : decode cc pc = .ok (.laload, 1)) (hp : pc + 1 = pc') (kk : mV Γ Q kc ks n sh P D E lv (.long (E a j) :: st) pc') : mV Γ Q kc ks n sh P D E lv (.int i :: .ref a :: st) pc := by
  obtain ⟨⟨p, l, e, R0, s, m, args, below, meth, c⟩, G, Y, base⟩ := Γ
  obtain ⟨hx, hb, hml, hown, hts, hK, hlk, hrt, hR, hbs, -⟩ := h
  subst hp
  subst hi
  intro H locs ls hR1 hS hl
  have h1 := kk H locs ls hR1 hS hl
  refine va_lald hx hb hK.1 (mR_one hR1 hs) 0 3 rfl rfl (vp_in_nI hj hlen) d ?_
  rw [nI_clamp (show j < 2 ^ 31 by omega)]
  exact h1
/-- the script is there, as the law was given it -/
def mScr (Γ : mC) (bs L : Nat) (xs : Nat → Int32) : Prop := match Γ with
  | ((p, l, e, R, s, m, args, below, meth, c), (G, Y, base)) => va_X bs L xs s s.heap ∧ bs < s.heap.size ∧ bs < base
theorem V_sld (h : mOk Γ κ own cc nL ret R) {bs L : Nat} {xs : Nat → Int32} (hX : mScr Γ bs L xs) (pc' : Nat) (j : Nat) {i : Int32} (hi : i = nI j) (hj : j < L) (hlen : L < 2 ^ 31) (d : decode cc pc = .ok (.iaload, 1)) (hp : pc + 1 = pc') (kk : mV Γ Q kc ks n sh P D E lv (.int (xs j) :: st) pc') : mV Γ Q kc ks n sh P D E lv (.int i :: .ref bs :: st) pc := by
  obtain ⟨⟨p, l, e, R0, s, m, args, below, meth, c⟩, G, Y, base⟩ := Γ
  obtain ⟨hx, hb, hml, hown, hts, hK, hlk, hrt, hR, hbs, -⟩ := h
  obtain ⟨x1, x2, x3⟩ := hX
  subst hp
  subst hi
  intro H locs ls hR1 hS hl
  have h1 := kk H locs ls hR1 hS hl
  refine va_sld hx hb x1 x2 (by show ¬ base ≤ bs; omega) hS (vp_in_nI hj hlen) d ?_
  rw [nI_clamp (show j < 2 ^ 31 by omega)]
  exact h1
theorem V_slen (h : mOk Γ κ own cc nL ret R) {bs L : Nat} {xs : Nat → Int32} (hX : mScr Γ bs L xs) (pc' : Nat) (d : decode cc pc = .ok (.arraylength, 1)) (hp : pc + 1 = pc') (kk : mV Γ Q kc ks n sh P D E lv (.int (nI L) :: st) pc') : mV Γ Q kc ks n sh P D E lv (.ref bs :: st) pc := by
  obtain ⟨⟨p, l, e, R0, s, m, args, below, meth, c⟩, G, Y, base⟩ := Γ
  obtain ⟨hx, hb, hml, hown, hts, hK, hlk, hrt, hR, hbs, -⟩ := h
  obtain ⟨x1, x2, x3⟩ := hX
  subst hp
  intro H locs ls hR1 hS hl
  exact va_slen hx hb x1 x2 (by show ¬ base ≤ bs; omega) hS d (kk H locs ls hR1 hS hl)
theorem V_dcmp (h : mOk Γ κ own cc nL ret R) (pc' : Nat) {x y : UInt64} {op : CmpOp} (d : decode cc pc = .ok (.dcmp op, 1)) (hp : pc + 1 = pc') (kk : mV Γ Q kc ks n sh P D E lv (.int (Op.cmpValue (FP.dcmp x y) op) :: st) pc') : mV Γ Q kc ks n sh P D E lv (.double y :: .double x :: st) pc := by
  obtain ⟨⟨p, l, e, R0, s, m, args, below, meth, c⟩, G, Y, base⟩ := Γ
  obtain ⟨hx, hb, hml, hown, hts, hK, hlk, hrt, hR, hbs, -⟩ := h
  subst hp
  intro H locs ls hR1 hS hl
  exact lv_dcmp hx hb d (kk H locs ls hR1 hS hl)
end MT
