def mNk : Cond → Bool
  | .fieldLinkNest _ _ _ _ _ _ => true
  | .methodLinkNest _ _ _ _ => true
  | _ => false
theorem mNest_k : ∀ w ∈ mNest, mNk w = true := by decide +kernel
theorem mNk_on {w : Cond} (h : mNk w = true) : w.onTables = true := by
  cases w <;> first | rfl | exact absurd h (by simp [mNk])
theorem mNk_warm {w : Cond} (h : mNk w = true) {s U : State} (hW : s.WarmedH U.vm) (hZ : va_Nw w s) : va_Nw w U := by
  cases w <;> first | exact va_Nw.warmF hW hZ | exact va_Nw.warmM hW hZ | exact absurd h (by simp [mNk])
theorem mKx_warm {G : va_G} {Y : Nat → ClassId} {s U : State} (hW : s.WarmedH U.vm) (h : mKx G Y s) : mKx G Y U := ⟨va_K.moved hW.alike h.1, fun w hw => mNk_warm (mNest_k w hw) hW (h.2.1 w hw), va_AO.moved hW.alike h.2.2.1, mAO2_moved hW.alike h.2.2.2⟩
theorem mKx_same {G : va_G} {Y : Nat → ClassId} {s U : State} (hv : s.vm = U.vm) (h : mKx G Y s) : mKx G Y U := ⟨va_K.moved (by rw [hv]; exact Vm.Alike.refl _) h.1, fun w hw => va_Nw.same (mNk_on (mNest_k w hw)) hv (h.2.1 w hw), va_AO.moved (by rw [hv]; exact Vm.Alike.refl _) h.2.2.1, mAO2_moved (by rw [hv]; exact Vm.Alike.refl _) h.2.2.2⟩
abbrev mPost : Type := Option Value → Nat → mSh → mPt → mDt → mEt → Prop
def mPre (G : va_G) (Y : Nat → ClassId) (base n : Nat) (sh : mSh) (P : mPt) (D : mDt) (E : mEt) (U : State) : Prop := mKx G Y U ∧ base ≤ n ∧ mR G Y base n sh P D E U.heap
def mQ (G : va_G) (Y : Nat → ClassId) (base : Nat) (post : mPost) : Array Value → State → Outcome → State → Prop := fun _ st o t => (∃ (v : Option Value) (n' : Nat) (sh' : mSh) (P' : mPt) (D' : mDt) (E' : mEt), o = .returned v ∧ post v n' sh' P' D' E' ∧ mR G Y base n' sh' P' D' E' t.heap) ∧ va_F (fun q => base ≤ q) st t
/-- y's contract: from the memory (n, sh, P, D, E), with the arguments As, it returns, and post holds of its answer and the memory behind it -/
def mMet (κ : mKp) (y : MethodName) (cc : ByteArray) (nL : Nat) (ret : Option FieldType) (rm : Room) (As : List Value) (n : Nat) (sh : mSh) (P : mPt) (D : mDt) (E : mEt) (post : mPost) : Prop := match κ with
  | (l, G, Y, base) => Met l y (.code y cc nL ret :: mW) rm (va_Pc As (mPre G Y base n sh P D E)) (mQ G Y base post) rm.cells rm.slots (fun q => base ≤ q)
def mEnd (Γ : mC) (post : mPost) (mc ms : Nat) : State → Prop := match Γ with
  | ((p, l, e, R, s, m, args, below, meth, c), (G, Y, base)) => MQ below (mQ G Y base post) args s mc ms (fun q => base ≤ q)
theorem mBlind {As : List Value} {G : va_G} {Y : Nat → ClassId} {base n : Nat} {sh : mSh} {P : mPt} {D : mDt} {E : mEt} : FrameBlind (va_Pc As (mPre G Y base n sh P D E)) := fun a U g mk q => by
  obtain ⟨q0, qK, q1, q2⟩ := q
  exact ⟨q0, mKx_same (s := U) (U := U.calling g mk a) rfl qK, q1, q2⟩
theorem mGood {y : MethodName} {cc : ByteArray} {nL : Nat} {ret : Option FieldType} (h : Cond.code y cc nL ret ∈ mW) : GoodIn mW (.code y cc nL ret :: mW) := by
  intro w hw
  have hm : w ∈ mW := by
    rcases List.mem_cons.mp hw with h1 | h1
    · rw [h1]; exact h
    · exact h1
  exact ⟨hm, good_of_word (mWgood hm)⟩
theorem mMet_of {κ : mKp} {y : MethodName} {cc : ByteArray} {nL : Nat} {ret : Option FieldType} {rm : Room} {As : List Value} {n : Nat} {sh : mSh} {P : mPt} {D : mDt} {E : mEt} {post : mPost} (hy : plainName y.cls = true) (hlen : (lg_sl As).length ≤ nL)
    (body : ∀ (Γ : mC) (Q : State → Prop), Q = mEnd Γ post rm.cells rm.slots → mOk Γ κ y.cls cc nL ret rm → (y.name = "<init>" → mInit Γ) → mV Γ Q 0 0 n sh P D E (lv_args 0 As) [] 0) : mMet κ y cc nL ret rm As n sh P D E post := by
  obtain ⟨l, G, Y, base⟩ := κ
  refine Met.ofW (cc := cc) (maxL := nL) (ret := ret) hy rfl ?_
  intro p e s m args below meth c s₁ B hml hv
  obtain ⟨rfl, hK, hbn, hR⟩ := hv
  have hts := atoms_spec (ws := Cond.code y cc nL ret :: mW) B.pre
  have hown : s.vm.findClass y.cls = some m.cls := findClass_of_methodNamed B.named
  have hbs : base ≤ s.heap.size := by rw [hR.1]; exact hbn
  have hok : mOk ((p, l, e, (headSpec (Cond.code y cc nL ret :: mW) rm).room, s, m, As.toArray, below, meth, c), (G, Y, base)) (l, G, Y, base) y.cls cc nL ret rm := ⟨B.exec, B.bytes, hml, hown, fun w hw => hts w (List.mem_cons_of_mem _ hw), hK, B.notSynchronized, B.returns, rfl, hbs, rfl⟩
  have hin : y.name = "<init>" → meth.name = "<init>" := fun h => by rw [(name_of_methodNamed B.named B.method).1]; exact h
  have hl := lv_entry As (n := nL) hlen
  rw [lg_entry_eq]
  have hb0 := body _ _ rfl hok hin s.heap [] _ hR va_S.rf (show lv_has _ c.maxLocals _ by rw [hml]; exact hl)
  exact hb0
section MC
variable {Γ : mC} {κ : mKp} {Q : State → Prop} {kc ks n : Nat} {sh : mSh} {P : mPt} {D : mDt} {E : mEt} {lv : List (Nat × Value)} {st : List Value} {pc : Nat} {own : String} {cc : ByteArray} {nL : Nat} {ret : Option FieldType} {R : Room} {post : mPost} {mc ms : Nat}

theorem V_iret {ty : FieldType} (h : mOk Γ κ own cc nL (some ty) R) {v : Int32} (hn : narrow ty (.int v) = .int v) (hQ : Q = mEnd Γ post mc ms) (hc : kc ≤ mc) (hs : ks ≤ ms) (hpost : post (some (.int v)) n sh P D E) (d : decode cc pc = .ok (.ireturn, 1)) : mV Γ Q kc ks n sh P D E lv [.int v] pc := by
  obtain ⟨⟨p, l, e, R0, s, m, args, below, meth, c⟩, G, Y, base⟩ := Γ
  obtain ⟨hx, hb, hml, hown, hts, hK, hlk, hrt, hR, hbs, hκ⟩ := h
  subst hQ
  intro H locs ls hR1 hS hl
  refine W.widen hc hs ?_
  exact W.zret hx hb hrt hn (fun t ht hW => ⟨⟨_, _, _, _, _, _, rfl, hpost, by rw [ht]; exact hR1⟩, hS.F ht⟩) (fun q hq => hS.2.2 q hq) d hlk
theorem V_lret {ty : FieldType} (h : mOk Γ κ own cc nL (some ty) R) {v : Int64} (hn : ty = .long) (hQ : Q = mEnd Γ post mc ms) (hc : kc ≤ mc) (hs : ks ≤ ms) (hpost : post (some (.long v)) n sh P D E) (d : decode cc pc = .ok (.lreturn, 1)) : mV Γ Q kc ks n sh P D E lv [.long v] pc := by
  obtain ⟨⟨p, l, e, R0, s, m, args, below, meth, c⟩, G, Y, base⟩ := Γ
  obtain ⟨hx, hb, hml, hown, hts, hK, hlk, hrt, hR, hbs, hκ⟩ := h
  subst hQ
  intro H locs ls hR1 hS hl
  refine W.widen hc hs ?_
  exact W.lret hx hb (by rw [hrt, hn]) (fun t ht hW => ⟨⟨_, _, _, _, _, _, rfl, hpost, by rw [ht]; exact hR1⟩, hS.F ht⟩) (fun q hq => hS.2.2 q hq) d hlk
theorem V_aret {ty : FieldType} (h : mOk Γ κ own cc nL (some ty) R) {v : Nat} (hn : (∃ q, ty = .object q) ∨ ∃ t, ty = .array t) (hQ : Q = mEnd Γ post mc ms) (hc : kc ≤ mc) (hs : ks ≤ ms) (hpost : post (some (.ref v)) n sh P D E) (d : decode cc pc = .ok (.areturn, 1)) : mV Γ Q kc ks n sh P D E lv [.ref v] pc := by
  obtain ⟨⟨p, l, e, R0, s, m, args, below, meth, c⟩, G, Y, base⟩ := Γ
  obtain ⟨hx, hb, hml, hown, hts, hK, hlk, hrt, hR, hbs, hκ⟩ := h
  subst hQ
  intro H locs ls hR1 hS hl
  refine W.widen hc hs ?_
  exact W.aret hx hb hrt hn (Or.inr ⟨_, rfl⟩) (fun t ht hW => ⟨⟨_, _, _, _, _, _, rfl, hpost, by rw [ht]; exact hR1⟩, hS.F ht⟩) (fun q hq => hS.2.2 q hq) d hlk
theorem V_ret (h : mOk Γ κ own cc nL none R) (hQ : Q = mEnd Γ post mc ms) (hc : kc ≤ mc) (hs : ks ≤ ms) (hpost : post none n sh P D E) (d : decode cc pc = .ok (.return_, 1)) : mV Γ Q kc ks n sh P D E lv [] pc := by
  obtain ⟨⟨p, l, e, R0, s, m, args, below, meth, c⟩, G, Y, base⟩ := Γ
  obtain ⟨hx, hb, hml, hown, hts, hK, hlk, hrt, hR, hbs, hκ⟩ := h
  subst hQ
  intro H locs ls hR1 hS hl
  refine W.widen hc hs ?_
  exact W.vret hx hb hrt (fun t ht hW => ⟨⟨_, _, _, _, _, _, rfl, hpost, by rw [ht]; exact hR1⟩, hS.F ht⟩) (fun q hq => hS.2.2 q hq) d hlk
/-- behind a call -/
theorem mAfter {p : Program} {l : Launch} {e : Env} {R0 : Room} {s : State} {m : MethodId} {args : Array Value} {below : List Frame} {meth : Method} {c : Code} {G : va_G} {Y : Nat → ClassId} {base mc' ms' pc' : Nat} {H : Heap} {locs : List Loc} {ls : Array Slot} {stk : List Value} {a : Array Value} (hp : pc + 3 = pc') (hS : va_S (fun q => base ≤ q) s.heap H locs) (hl : lv_has ls c.maxLocals lv)
    (hr : va_Run p l e R0 s m args below meth c H locs kc ks mc' ms' (F0 m pc ls stk) st (mQ G Y base post a) (fun q => base ≤ q))
    (kk : ∀ (v : Option Value) (n' : Nat) (sh' : mSh) (P' : mPt) (D' : mDt) (E' : mEt), post v n' sh' P' D' E' → mV ((p, l, e, R0, s, m, args, below, meth, c), (G, Y, base)) Q (kc + mc') (ks + ms') n' sh' P' D' E' lv (v.toList ++ st) pc') : W p l e R0 s m args below meth c H locs kc ks Q (F0 m pc ls stk) := by
  subst hp
  intro T hT X
  obtain ⟨v, st₀, t, T', L, h0, X', hL, e1, e2, ⟨⟨v', n', sh', P', D', E', hv, hpo, hR'⟩, hz, hk⟩, stp⟩ := hr T hT X
  cases hv
  rw [h0] at hz hk
  have hS' : va_S (fun q => base ≤ q) s.heap T'.heap (locs ++ L) := ⟨Nat.le_trans hS.1 (by rw [e1]; exact hz), fun q h1 h2 => by rw [e1, hk q (Nat.lt_of_lt_of_le h1 hS.1) h2]; exact hS.2.1 q h1 h2, fun q hq => by
      rcases List.mem_append.mp hq with h | h
      · exact hS.2.2 q h
      · exact hL q h⟩
  obtain ⟨t2, a1, b1⟩ := kk v n' sh' P' D' E' hpo T'.heap (locs ++ L) ls (by rw [e1]; exact hR') hS' hl T' rfl X'
  exact ⟨t2, stp t2 a1, b1⟩
theorem mPreOf {G : va_G} {Y : Nat → ClassId} {base : Nat} {s : State} {H : Heap} {locs : List Loc} {As : List Value} (hK : mKx G Y s) (hbs : base ≤ s.heap.size) (hS : va_S (fun q => base ≤ q) s.heap H locs) (hR1 : mR G Y base n sh P D E H) : ∀ U : State, U.heap = H → s.WarmedH U.vm → va_Pc As (mPre G Y base n sh P D E) As.toArray U := fun U hU hW => ⟨rfl, mKx_warm hW hK, by rw [← hR1.1]; exact Nat.le_trans hbs hS.1, by rw [hU]; exact hR1⟩

theorem V_callV (h : mOk Γ κ own cc nL ret R) (pc' : Nat) {y : MethodName} {cc2 : ByteArray} {nL2 : Nat} {ret2 : Option FieldType} {rm : Room} {idx : Nat} {As stk : List Value} {ci b N : Nat} {T : u_T} (hM : mMet κ y cc2 nL2 ret2 rm (.ref b :: As) n sh P D E post) (hC : vwCl[ci]? = some (y.cls, T, N)) (hs : sh b = some (.inl ci)) (w1 : Cond.methodLink own idx y ∈ mW) (w2 : Cond.instanceMethod y ∈ mW) (w3 : Cond.selects y.cls y y ∈ mW) (w4 : Cond.initialized y.cls ∈ mW) (w5 : Cond.code y cc2 nL2 ret2 ∈ mW) (hd : y.cls ≠ "java/lang/invoke/MethodHandle" ∧ y.cls ≠ "java/lang/invoke/VarHandle" ∧ (parseMethodDescriptor y.desc).map (fun d => d.parameters.length) = some As.length) (hR : rm.frames + 1 ≤ R.frames ∧ 8 + (nL2 + 11) + rm.locals ≤ R.locals) (hcat : (st.map fun v => v.category).sum ≤ 8) (hp : pc + 3 = pc') (hstk : stk = As.reverse ++ .ref b :: st) (d : decode cc pc = .ok (.invokevirtual idx, 3)) (hroom : kc + rm.cells ≤ R.cells ∧ ks + rm.slots ≤ R.slots) (kk : ∀ (v : Option Value) (n' : Nat) (sh' : mSh) (P' : mPt) (D' : mDt) (E' : mEt), post v n' sh' P' D' E' → mV Γ Q (kc + rm.cells) (ks + rm.slots) n' sh' P' D' E' lv (v.toList ++ st) pc') : mV Γ Q kc ks n sh P D E lv stk pc := by
  obtain ⟨⟨p, l, e, R0, s, m, args, below, meth, c⟩, G, Y, base⟩ := Γ
  obtain ⟨hx, hb, hml, hown, hts, hK, hlk, hrt, hR, hbs, hκ⟩ := h
  subst hκ
  subst hR
  intro H locs ls hR1 hS hl
  refine mAfter (a := (Value.ref b :: As).toArray) hp hS hl ?_ kk
  exact va_runV (As := As) (rest := st) (nL := nL) (n := As.length) (Ts := mW) ⟨hx, hb, hml, hown, hts⟩ hM ⟨callB_of As.length hts (mGood w5) rfl rfl rfl (hts _ w4) (hts _ w1) hd hR, hts _ w2, hts _ w3⟩ ⟨mBlind, va_recv hK.1 (mR_one hR1 hs) (ci := ci) (q0 := 0) hC rfl, mPreOf hK hbs hS hR1⟩ rfl rfl (by rw [← hml]; exact hl.1) hstk (lv_room hcat) d hroom
theorem V_callS (h : mOk Γ κ own cc nL ret R) (pc' : Nat) {y : MethodName} {cc2 : ByteArray} {nL2 : Nat} {ret2 : Option FieldType} {rm : Room} {idx : Nat} {As stk : List Value} (hM : mMet κ y cc2 nL2 ret2 rm As n sh P D E post) (w1 : Cond.methodLink own idx y ∈ mW) (w2 : Cond.static y ∈ mW) (w4 : Cond.initialized y.cls ∈ mW) (w5 : Cond.code y cc2 nL2 ret2 ∈ mW) (hd : y.cls ≠ "java/lang/invoke/MethodHandle" ∧ y.cls ≠ "java/lang/invoke/VarHandle" ∧ (parseMethodDescriptor y.desc).map (fun d => d.parameters.length) = some As.length) (hR : rm.frames + 1 ≤ R.frames ∧ 8 + (nL2 + 11) + rm.locals ≤ R.locals) (hcat : (st.map fun v => v.category).sum ≤ 8) (hp : pc + 3 = pc') (hstk : stk = As.reverse ++ st) (d : decode cc pc = .ok (.invokestatic idx, 3)) (hroom : kc + rm.cells ≤ R.cells ∧ ks + rm.slots ≤ R.slots) (kk : ∀ (v : Option Value) (n' : Nat) (sh' : mSh) (P' : mPt) (D' : mDt) (E' : mEt), post v n' sh' P' D' E' → mV Γ Q (kc + rm.cells) (ks + rm.slots) n' sh' P' D' E' lv (v.toList ++ st) pc') : mV Γ Q kc ks n sh P D E lv stk pc := by
  obtain ⟨⟨p, l, e, R0, s, m, args, below, meth, c⟩, G, Y, base⟩ := Γ
  obtain ⟨hx, hb, hml, hown, hts, hK, hlk, hrt, hR, hbs, hκ⟩ := h
  subst hκ
  subst hR
  intro H locs ls hR1 hS hl
  refine mAfter (a := As.toArray) hp hS hl ?_ kk
  exact va_runS (As := As) (rest := st) (nL := nL) (n := As.length) (Ts := mW) ⟨hx, hb, hml, hown, hts⟩ hM ⟨callB_of As.length hts (mGood w5) rfl rfl rfl (hts _ w4) (hts _ w1) hd hR, hts _ w2⟩ ⟨mBlind, mPreOf hK hbs hS hR1⟩ rfl rfl (by rw [← hml]; exact hl.1) hstk (lv_room hcat) d hroom
theorem V_callI (h : mOk Γ κ own cc nL ret R) (pc' : Nat) {y : MethodName} {cc2 : ByteArray} {nL2 : Nat} {ret2 : Option FieldType} {rm : Room} {idx : Nat} {As stk : List Value} {b : Nat} (hM : mMet κ y cc2 nL2 none rm (.ref b :: As) n sh P D E post) (hin : y.name = "<init>") (w1 : Cond.methodLink own idx y ∈ mW) (w2 : Cond.instanceMethod y ∈ mW) (w4 : Cond.initialized y.cls ∈ mW) (w5 : Cond.code y cc2 nL2 none ∈ mW) (hd : y.cls ≠ "java/lang/invoke/MethodHandle" ∧ y.cls ≠ "java/lang/invoke/VarHandle" ∧ (parseMethodDescriptor y.desc).map (fun d => d.parameters.length) = some As.length) (hR : rm.frames + 1 ≤ R.frames ∧ 8 + (nL2 + 11) + rm.locals ≤ R.locals) (hcat : (st.map fun v => v.category).sum ≤ 8) (hp : pc + 3 = pc') (hstk : stk = As.reverse ++ .ref b :: st) (d : decode cc pc = .ok (.invokespecial idx, 3)) (hroom : kc + rm.cells ≤ R.cells ∧ ks + rm.slots ≤ R.slots) (kk : ∀ (v : Option Value) (n' : Nat) (sh' : mSh) (P' : mPt) (D' : mDt) (E' : mEt), post v n' sh' P' D' E' → mV Γ Q (kc + rm.cells) (ks + rm.slots) n' sh' P' D' E' lv (v.toList ++ st) pc') : mV Γ Q kc ks n sh P D E lv stk pc := by
  obtain ⟨⟨p, l, e, R0, s, m, args, below, meth, c⟩, G, Y, base⟩ := Γ
  obtain ⟨hx, hb, hml, hown, hts, hK, hlk, hrt, hR, hbs, hκ⟩ := h
  subst hκ
  subst hR
  intro H locs ls hR1 hS hl
  refine mAfter (a := (Value.ref b :: As).toArray) hp hS hl ?_ kk
  exact va_runI (As := As) (rest := st) (nL := nL) (n := As.length) (Ts := mW) ⟨hx, hb, hml, hown, hts⟩ hM ⟨callB_of As.length hts (mGood w5) rfl rfl rfl (hts _ w4) (hts _ w1) hd hR, hin, hts _ w2⟩ ⟨mBlind, mPreOf hK hbs hS hR1⟩ rfl rfl (by rw [← hml]; exact hl.1) hstk (lv_room hcat) d hroom
theorem V_callIN (h : mOk Γ κ own cc nL ret R) (pc' : Nat) {y : MethodName} {cc2 : ByteArray} {nL2 : Nat} {ret2 : Option FieldType} {rm : Room} {idx : Nat} {As stk : List Value} {b : Nat} {host : String} (hM : mMet κ y cc2 nL2 none rm (.ref b :: As) n sh P D E post) (hin : y.name = "<init>") (w1 : Cond.methodLinkNest own idx y host ∈ mNest) (w2 : Cond.instanceMethod y ∈ mW) (w4 : Cond.initialized y.cls ∈ mW) (w5 : Cond.code y cc2 nL2 none ∈ mW) (hd : y.cls ≠ "java/lang/invoke/MethodHandle" ∧ y.cls ≠ "java/lang/invoke/VarHandle" ∧ (parseMethodDescriptor y.desc).map (fun d => d.parameters.length) = some As.length) (hR : rm.frames + 1 ≤ R.frames ∧ 8 + (nL2 + 11) + rm.locals ≤ R.locals) (hcat : (st.map fun v => v.category).sum ≤ 8) (hp : pc + 3 = pc') (hstk : stk = As.reverse ++ .ref b :: st) (d : decode cc pc = .ok (.invokespecial idx, 3)) (hroom : kc + rm.cells ≤ R.cells ∧ ks + rm.slots ≤ R.slots) (kk : ∀ (v : Option Value) (n' : Nat) (sh' : mSh) (P' : mPt) (D' : mDt) (E' : mEt), post v n' sh' P' D' E' → mV Γ Q (kc + rm.cells) (ks + rm.slots) n' sh' P' D' E' lv (v.toList ++ st) pc') : mV Γ Q kc ks n sh P D E lv stk pc := by
  obtain ⟨⟨p, l, e, R0, s, m, args, below, meth, c⟩, G, Y, base⟩ := Γ
  obtain ⟨hx, hb, hml, hown, hts, hK, hlk, hrt, hR, hbs, hκ⟩ := h
  subst hκ
  subst hR
  intro H locs ls hR1 hS hl
  refine mAfter (a := (Value.ref b :: As).toArray) hp hS hl ?_ kk
  exact va_runIN (As := As) (rest := st) (nL := nL) (n := As.length) (Ts := mW) ⟨hx, hb, hml, hown, hts⟩ hM ⟨va_cnB As.length hts (mGood w5) rfl rfl rfl (hK.2.1 _ w1) (hts _ w4) hd hR, hin, hts _ w2⟩ ⟨mBlind, mPreOf hK hbs hS hR1⟩ rfl rfl (by rw [← hml]; exact hl.1) hstk (lv_room hcat) d hroom
theorem V_mmax (h : mOk Γ κ own cc nL ret R) (pc' : Nat) {idx : Nat} {x y : Int32} (w1 : Cond.methodLink own idx Lib.Math.max.name ∈ mW) (hf : 1 ≤ R.frames) (hlo : (st.map fun v => v.category).sum + 13 ≤ R.locals) (hc : kc ≤ R.cells) (hs : ks ≤ R.slots) (d : decode cc pc = .ok (.invokestatic idx, 3)) (hp : pc + 3 = pc') (kk : mV Γ Q kc ks n sh P D E lv (.int (imax x y) :: st) pc') : mV Γ Q kc ks n sh P D E lv (.int y :: .int x :: st) pc := by
  obtain ⟨⟨p, l, e, R0, s, m, args, below, meth, c⟩, G, Y, base⟩ := Γ
  obtain ⟨hx, hb, hml, hown, hts, hK, hlk, hrt, hR, hbs, hκ⟩ := h
  subst hp
  subst hR
  intro H locs ls hR1 hS hl
  exact va_mmax hx hb hl.1.symm hown (hts _ w1) (hts _ qT_Math_max) (hts _ qZ_Math) (hts _ qC_Math_max) hf hlo hc hs d (kk H locs ls hR1 hS hl)
theorem V_mmin (h : mOk Γ κ own cc nL ret R) (pc' : Nat) {idx : Nat} {x y : Int32} (w1 : Cond.methodLink own idx Lib.Math.min.name ∈ mW) (hf : 1 ≤ R.frames) (hlo : (st.map fun v => v.category).sum + 13 ≤ R.locals) (hc : kc ≤ R.cells) (hs : ks ≤ R.slots) (d : decode cc pc = .ok (.invokestatic idx, 3)) (hp : pc + 3 = pc') (kk : mV Γ Q kc ks n sh P D E lv (.int (imin x y) :: st) pc') : mV Γ Q kc ks n sh P D E lv (.int y :: .int x :: st) pc := by
  obtain ⟨⟨p, l, e, R0, s, m, args, below, meth, c⟩, G, Y, base⟩ := Γ
  obtain ⟨hx, hb, hml, hown, hts, hK, hlk, hrt, hR, hbs, hκ⟩ := h
  subst hp
  subst hR
  intro H locs ls hR1 hS hl
  exact va_mmin hx hb hl.1.symm hown (hts _ w1) (hts _ qT_Math_min) (hts _ qZ_Math) (hts _ qC_Math_min) hf hlo hc hs d (kk H locs ls hR1 hS hl)
end MC
/-- a contract of a method that makes nothing and writes ints alone -/
def mFn (κ : mKp) (y : MethodName) (cc : ByteArray) (nL : Nat) (ret : Option FieldType) (fr lo : Nat) (As : List Value) (n : Nat) (sh : mSh) (P : mPt) (D : mDt) (E : mEt) (post : Option Value → mDt → Prop) : Prop := mMet κ y cc nL ret { frames := fr, cells := 0, slots := 0, locals := lo } As n sh P D E (fun v n' sh' P' D' E' => n' = n ∧ sh' = sh ∧ P' = P ∧ E' = E ∧ post v D')
def mFnI (κ : mKp) (y : MethodName) (cc : ByteArray) (nL : Nat) (ret : Option FieldType) (fr lo : Nat) (As : List Value) (n : Nat) (sh : mSh) (P : mPt) (D : mDt) (E : mEt) (post : Int32 → mDt → Prop) : Prop := mFn κ y cc nL ret fr lo As n sh P D E (fun v D' => ∃ r : Int32, v = some (.int r) ∧ post r D')
def mFnR (κ : mKp) (y : MethodName) (cc : ByteArray) (nL : Nat) (ret : Option FieldType) (fr lo : Nat) (As : List Value) (n : Nat) (sh : mSh) (P : mPt) (D : mDt) (E : mEt) (post : Nat → mDt → Prop) : Prop := mFn κ y cc nL ret fr lo As n sh P D E (fun v D' => ∃ r : Nat, v = some (.ref r) ∧ post r D')
def mFnV (κ : mKp) (y : MethodName) (cc : ByteArray) (nL : Nat) (fr lo : Nat) (As : List Value) (n : Nat) (sh : mSh) (P : mPt) (D : mDt) (E : mEt) (post : mDt → Prop) : Prop := mFn κ y cc nL none fr lo As n sh P D E (fun v D' => v = none ∧ post D')
section MF
variable {Γ : mC} {κ : mKp} {Q : State → Prop} {kc ks n : Nat} {sh : mSh} {P : mPt} {D : mDt} {E : mEt} {lv : List (Nat × Value)} {st : List Value} {pc : Nat} {own : String} {cc : ByteArray} {nL : Nat} {ret : Option FieldType} {R : Room}

theorem CVI (h : mOk Γ κ own cc nL ret R) (pc' : Nat) {y : MethodName} {cc2 : ByteArray} {nL2 : Nat} {ret2 : Option FieldType} {fr lo : Nat} {idx : Nat} {As stk : List Value} {ci b N : Nat} {T : u_T} {post : Int32 → mDt → Prop} (hM : mFnI κ y cc2 nL2 ret2 fr lo (.ref b :: As) n sh P D E post) (hC : vwCl[ci]? = some (y.cls, T, N)) (hs : sh b = some (.inl ci)) (w1 : Cond.methodLink own idx y ∈ mW) (w2 : Cond.instanceMethod y ∈ mW) (w3 : Cond.selects y.cls y y ∈ mW) (w4 : Cond.initialized y.cls ∈ mW) (w5 : Cond.code y cc2 nL2 ret2 ∈ mW) (hd : y.cls ≠ "java/lang/invoke/MethodHandle" ∧ y.cls ≠ "java/lang/invoke/VarHandle" ∧ (parseMethodDescriptor y.desc).map (fun d => d.parameters.length) = some As.length) (hR : fr + 1 ≤ R.frames ∧ 8 + (nL2 + 11) + lo ≤ R.locals) (hcat : (st.map fun v => v.category).sum ≤ 8) (hp : pc + 3 = pc') (hstk : stk = As.reverse ++ .ref b :: st) (d : decode cc pc = .ok (.invokevirtual idx, 3)) (hkc : kc ≤ R.cells) (hks : ks ≤ R.slots) (kk : ∀ (r : Int32) (D' : mDt), post r D' → mV Γ Q kc ks n sh P D' E lv (.int r :: st) pc') : mV Γ Q kc ks n sh P D E lv stk pc := by
  refine V_callV h pc' (rm := { frames := fr, cells := 0, slots := 0, locals := lo }) hM hC hs w1 w2 w3 w4 w5 hd hR hcat hp hstk d ⟨hkc, hks⟩ ?_
  · intro v n' sh' P' D' E' hq
    obtain ⟨rfl, rfl, rfl, rfl, r, rfl, hq⟩ := hq
    exact kk r D' hq
theorem CVR (h : mOk Γ κ own cc nL ret R) (pc' : Nat) {y : MethodName} {cc2 : ByteArray} {nL2 : Nat} {ret2 : Option FieldType} {fr lo : Nat} {idx : Nat} {As stk : List Value} {ci b N : Nat} {T : u_T} {post : Nat → mDt → Prop} (hM : mFnR κ y cc2 nL2 ret2 fr lo (.ref b :: As) n sh P D E post) (hC : vwCl[ci]? = some (y.cls, T, N)) (hs : sh b = some (.inl ci)) (w1 : Cond.methodLink own idx y ∈ mW) (w2 : Cond.instanceMethod y ∈ mW) (w3 : Cond.selects y.cls y y ∈ mW) (w4 : Cond.initialized y.cls ∈ mW) (w5 : Cond.code y cc2 nL2 ret2 ∈ mW) (hd : y.cls ≠ "java/lang/invoke/MethodHandle" ∧ y.cls ≠ "java/lang/invoke/VarHandle" ∧ (parseMethodDescriptor y.desc).map (fun d => d.parameters.length) = some As.length) (hR : fr + 1 ≤ R.frames ∧ 8 + (nL2 + 11) + lo ≤ R.locals) (hcat : (st.map fun v => v.category).sum ≤ 8) (hp : pc + 3 = pc') (hstk : stk = As.reverse ++ .ref b :: st) (d : decode cc pc = .ok (.invokevirtual idx, 3)) (hkc : kc ≤ R.cells) (hks : ks ≤ R.slots) (kk : ∀ (r : Nat) (D' : mDt), post r D' → mV Γ Q kc ks n sh P D' E lv (.ref r :: st) pc') : mV Γ Q kc ks n sh P D E lv stk pc := by
  refine V_callV h pc' (rm := { frames := fr, cells := 0, slots := 0, locals := lo }) hM hC hs w1 w2 w3 w4 w5 hd hR hcat hp hstk d ⟨hkc, hks⟩ ?_
  · intro v n' sh' P' D' E' hq
    obtain ⟨rfl, rfl, rfl, rfl, r, rfl, hq⟩ := hq
    exact kk r D' hq
theorem CVV (h : mOk Γ κ own cc nL ret R) (pc' : Nat) {y : MethodName} {cc2 : ByteArray} {nL2 : Nat} {fr lo : Nat} {idx : Nat} {As stk : List Value} {ci b N : Nat} {T : u_T} {post : mDt → Prop} (hM : mFnV κ y cc2 nL2 fr lo (.ref b :: As) n sh P D E post) (hC : vwCl[ci]? = some (y.cls, T, N)) (hs : sh b = some (.inl ci)) (w1 : Cond.methodLink own idx y ∈ mW) (w2 : Cond.instanceMethod y ∈ mW) (w3 : Cond.selects y.cls y y ∈ mW) (w4 : Cond.initialized y.cls ∈ mW) (w5 : Cond.code y cc2 nL2 none ∈ mW) (hd : y.cls ≠ "java/lang/invoke/MethodHandle" ∧ y.cls ≠ "java/lang/invoke/VarHandle" ∧ (parseMethodDescriptor y.desc).map (fun d => d.parameters.length) = some As.length) (hR : fr + 1 ≤ R.frames ∧ 8 + (nL2 + 11) + lo ≤ R.locals) (hcat : (st.map fun v => v.category).sum ≤ 8) (hp : pc + 3 = pc') (hstk : stk = As.reverse ++ .ref b :: st) (d : decode cc pc = .ok (.invokevirtual idx, 3)) (hkc : kc ≤ R.cells) (hks : ks ≤ R.slots) (kk : ∀ (D' : mDt), post D' → mV Γ Q kc ks n sh P D' E lv st pc') : mV Γ Q kc ks n sh P D E lv stk pc := by
  refine V_callV h pc' (rm := { frames := fr, cells := 0, slots := 0, locals := lo }) hM hC hs w1 w2 w3 w4 w5 hd hR hcat hp hstk d ⟨hkc, hks⟩ ?_
  · intro v n' sh' P' D' E' hq
    obtain ⟨rfl, rfl, rfl, rfl, rfl, hq⟩ := hq
    exact kk D' hq
theorem CSI (h : mOk Γ κ own cc nL ret R) (pc' : Nat) {y : MethodName} {cc2 : ByteArray} {nL2 : Nat} {ret2 : Option FieldType} {fr lo : Nat} {idx : Nat} {As stk : List Value} {post : Int32 → mDt → Prop} (hM : mFnI κ y cc2 nL2 ret2 fr lo As n sh P D E post) (w1 : Cond.methodLink own idx y ∈ mW) (w2 : Cond.static y ∈ mW) (w4 : Cond.initialized y.cls ∈ mW) (w5 : Cond.code y cc2 nL2 ret2 ∈ mW) (hd : y.cls ≠ "java/lang/invoke/MethodHandle" ∧ y.cls ≠ "java/lang/invoke/VarHandle" ∧ (parseMethodDescriptor y.desc).map (fun d => d.parameters.length) = some As.length) (hR : fr + 1 ≤ R.frames ∧ 8 + (nL2 + 11) + lo ≤ R.locals) (hcat : (st.map fun v => v.category).sum ≤ 8) (hp : pc + 3 = pc') (hstk : stk = As.reverse ++ st) (d : decode cc pc = .ok (.invokestatic idx, 3)) (hkc : kc ≤ R.cells) (hks : ks ≤ R.slots) (kk : ∀ (r : Int32) (D' : mDt), post r D' → mV Γ Q kc ks n sh P D' E lv (.int r :: st) pc') : mV Γ Q kc ks n sh P D E lv stk pc := by
  refine V_callS h pc' (rm := { frames := fr, cells := 0, slots := 0, locals := lo }) hM w1 w2 w4 w5 hd hR hcat hp hstk d ⟨hkc, hks⟩ ?_
  · intro v n' sh' P' D' E' hq
    obtain ⟨rfl, rfl, rfl, rfl, r, rfl, hq⟩ := hq
    exact kk r D' hq
theorem CSR (h : mOk Γ κ own cc nL ret R) (pc' : Nat) {y : MethodName} {cc2 : ByteArray} {nL2 : Nat} {ret2 : Option FieldType} {fr lo : Nat} {idx : Nat} {As stk : List Value} {post : Nat → mDt → Prop} (hM : mFnR κ y cc2 nL2 ret2 fr lo As n sh P D E post) (w1 : Cond.methodLink own idx y ∈ mW) (w2 : Cond.static y ∈ mW) (w4 : Cond.initialized y.cls ∈ mW) (w5 : Cond.code y cc2 nL2 ret2 ∈ mW) (hd : y.cls ≠ "java/lang/invoke/MethodHandle" ∧ y.cls ≠ "java/lang/invoke/VarHandle" ∧ (parseMethodDescriptor y.desc).map (fun d => d.parameters.length) = some As.length) (hR : fr + 1 ≤ R.frames ∧ 8 + (nL2 + 11) + lo ≤ R.locals) (hcat : (st.map fun v => v.category).sum ≤ 8) (hp : pc + 3 = pc') (hstk : stk = As.reverse ++ st) (d : decode cc pc = .ok (.invokestatic idx, 3)) (hkc : kc ≤ R.cells) (hks : ks ≤ R.slots) (kk : ∀ (r : Nat) (D' : mDt), post r D' → mV Γ Q kc ks n sh P D' E lv (.ref r :: st) pc') : mV Γ Q kc ks n sh P D E lv stk pc := by
  refine V_callS h pc' (rm := { frames := fr, cells := 0, slots := 0, locals := lo }) hM w1 w2 w4 w5 hd hR hcat hp hstk d ⟨hkc, hks⟩ ?_
  · intro v n' sh' P' D' E' hq
    obtain ⟨rfl, rfl, rfl, rfl, r, rfl, hq⟩ := hq
    exact kk r D' hq
theorem CSV (h : mOk Γ κ own cc nL ret R) (pc' : Nat) {y : MethodName} {cc2 : ByteArray} {nL2 : Nat} {fr lo : Nat} {idx : Nat} {As stk : List Value} {post : mDt → Prop} (hM : mFnV κ y cc2 nL2 fr lo As n sh P D E post) (w1 : Cond.methodLink own idx y ∈ mW) (w2 : Cond.static y ∈ mW) (w4 : Cond.initialized y.cls ∈ mW) (w5 : Cond.code y cc2 nL2 none ∈ mW) (hd : y.cls ≠ "java/lang/invoke/MethodHandle" ∧ y.cls ≠ "java/lang/invoke/VarHandle" ∧ (parseMethodDescriptor y.desc).map (fun d => d.parameters.length) = some As.length) (hR : fr + 1 ≤ R.frames ∧ 8 + (nL2 + 11) + lo ≤ R.locals) (hcat : (st.map fun v => v.category).sum ≤ 8) (hp : pc + 3 = pc') (hstk : stk = As.reverse ++ st) (d : decode cc pc = .ok (.invokestatic idx, 3)) (hkc : kc ≤ R.cells) (hks : ks ≤ R.slots) (kk : ∀ (D' : mDt), post D' → mV Γ Q kc ks n sh P D' E lv st pc') : mV Γ Q kc ks n sh P D E lv stk pc := by
  refine V_callS h pc' (rm := { frames := fr, cells := 0, slots := 0, locals := lo }) hM w1 w2 w4 w5 hd hR hcat hp hstk d ⟨hkc, hks⟩ ?_
  · intro v n' sh' P' D' E' hq
    obtain ⟨rfl, rfl, rfl, rfl, rfl, hq⟩ := hq
    exact kk D' hq
end MF
