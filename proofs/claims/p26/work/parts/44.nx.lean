/-! methods that know the script, and calls that never throw -/
def mScP (base bs Ls : Nat) (xs : Nat → Int32) (U : State) : Prop := mPx base U ∧ va_X bs Ls xs U U.heap ∧ bs < base
def mPreS (G : va_G) (Y : Nat → ClassId) (base n : Nat) (sh : mSh) (P : mPt) (D : mDt) (E : mEt) (bs Ls : Nat) (xs : Nat → Int32) (U : State) : Prop := mPre G Y base n sh P D E U ∧ mScP base bs Ls xs U
def mSMet (κ : mKp) (y : MethodName) (cc : ByteArray) (nL : Nat) (ret : Option FieldType) (rm : Room) (As : List Value) (n : Nat) (sh : mSh) (P : mPt) (D : mDt) (E : mEt) (bs Ls : Nat) (xs : Nat → Int32) (post : mPost) : Prop := match κ with
  | (l, G, Y, base) => Met l y (.code y cc nL ret :: mW) rm (va_Pc As (mPreS G Y base n sh P D E bs Ls xs)) (mQ G Y base post) rm.cells rm.slots (fun q => base ≤ q)
def mOkS (Γ : mC) (bs Ls : Nat) (xs : Nat → Int32) : Prop := match Γ with
  | ((p, l, e, R, s, m, args, below, meth, c), (G, Y, base)) => mScP base bs Ls xs s
theorem mBlindS {As : List Value} {G : va_G} {Y : Nat → ClassId} {base n : Nat} {sh : mSh} {P : mPt} {D : mDt} {E : mEt} {bs Ls : Nat} {xs : Nat → Int32} : FrameBlind (va_Pc As (mPreS G Y base n sh P D E bs Ls xs)) := fun a U g mk q => by
  obtain ⟨q0, ⟨qK, q1, q2⟩, q3, q4, q5⟩ := q
  exact ⟨q0, ⟨mKx_same (s := U) (U := U.calling g mk a) rfl qK, q1, q2⟩, mPx_same (s := U) (U := U.calling g mk a) rfl rfl q3, va_X.moved (u := U) (U := U.calling g mk a) (Vm.Alike.refl _) q4, q5⟩
theorem mSMet_of {κ : mKp} {y : MethodName} {cc : ByteArray} {nL : Nat} {ret : Option FieldType} {rm : Room} {As : List Value} {n : Nat} {sh : mSh} {P : mPt} {D : mDt} {E : mEt} {bs Ls : Nat} {xs : Nat → Int32} {post : mPost} (hy : plainName y.cls = true) (hlen : (lg_sl As).length ≤ nL)
    (body : ∀ (Γ : mC) (Q : State → Prop), Q = mEnd Γ post rm.cells rm.slots → mOk Γ κ y.cls cc nL ret rm → mOkS Γ bs Ls xs → (y.name = "<init>" → mInit Γ) → mV Γ Q 0 0 n sh P D E (lv_args 0 As) [] 0) : mSMet κ y cc nL ret rm As n sh P D E bs Ls xs post := by
  obtain ⟨l, G, Y, base⟩ := κ
  refine Met.ofW (cc := cc) (maxL := nL) (ret := ret) hy rfl ?_
  intro p e s m args below meth c s₁ B hml hv
  obtain ⟨rfl, ⟨hK, hbn, hR⟩, hSc⟩ := hv
  have hts := atoms_spec (ws := Cond.code y cc nL ret :: mW) B.pre
  have hown : s.vm.findClass y.cls = some m.cls := findClass_of_methodNamed B.named
  have hbs : base ≤ s.heap.size := by rw [hR.1]; exact hbn
  have hok : mOk ((p, l, e, (headSpec (Cond.code y cc nL ret :: mW) rm).room, s, m, As.toArray, below, meth, c), (G, Y, base)) (l, G, Y, base) y.cls cc nL ret rm := ⟨B.exec, B.bytes, hml, hown, fun w hw => hts w (List.mem_cons_of_mem _ hw), hK, B.notSynchronized, B.returns, rfl, hbs, rfl⟩
  have hin : y.name = "<init>" → meth.name = "<init>" := fun h => by rw [(name_of_methodNamed B.named B.method).1]; exact h
  have hl := lv_entry As (n := nL) hlen
  rw [lg_entry_eq]
  have hb0 := body _ _ rfl hok hSc hin s.heap [] _ hR va_S.rf (show lv_has _ c.maxLocals _ by rw [hml]; exact hl)
  exact hb0
theorem mScMove {base bs Ls : Nat} {xs : Nat → Int32} {s U : State} {H : Heap} {locs : List Loc} (hbs : base ≤ s.heap.size) (hS : va_S (fun q => base ≤ q) s.heap H locs) (hU : U.heap = H) (hW : s.WarmedH U.vm) (h : mScP base bs Ls xs s) : mScP base bs Ls xs U := ⟨mPx_move hW (fun q h1 h2 => by rw [hU]; exact hS.2.1 q h1 h2) h.1, (h.2.1.moved hW.alike).kept (by rw [hU]; exact hS.2.1 bs (Nat.lt_of_lt_of_le h.2.2 hbs) (Nat.not_le.mpr h.2.2)), h.2.2⟩
theorem mPreSOf {G : va_G} {Y : Nat → ClassId} {base n : Nat} {sh : mSh} {P : mPt} {D : mDt} {E : mEt} {bs Ls : Nat} {xs : Nat → Int32} {s : State} {H : Heap} {locs : List Loc} {As : List Value} (hK : mKx G Y s) (hbs : base ≤ s.heap.size) (hS : va_S (fun q => base ≤ q) s.heap H locs) (hR1 : mR G Y base n sh P D E H) (hSc : mScP base bs Ls xs s) : ∀ U : State, U.heap = H → s.WarmedH U.vm → va_Pc As (mPreS G Y base n sh P D E bs Ls xs) As.toArray U := fun U hU hW => ⟨rfl, (mPreOf (As := As) hK hbs hS hR1 U hU hW).2, mScMove hbs hS hU hW hSc⟩
section MNX
variable {Γ : mC} {κ : mKp} {Q : State → Prop} {kc ks n : Nat} {sh : mSh} {P : mPt} {D : mDt} {E : mEt} {lv : List (Nat × Value)} {st : List Value} {pc : Nat} {own : String} {cc : ByteArray} {nL : Nat} {ret : Option FieldType} {R : Room} {post : mPost} {bs Ls : Nat} {xs : Nat → Int32}

theorem S_callV (h : mOk Γ κ own cc nL ret R) (hX : mOkS Γ bs Ls xs) (pc' : Nat) {y : MethodName} {cc2 : ByteArray} {nL2 : Nat} {ret2 : Option FieldType} {rm : Room} {idx : Nat} {As stk : List Value} {ci b N : Nat} {T : u_T} (hM : mSMet κ y cc2 nL2 ret2 rm (.ref b :: As) n sh P D E bs Ls xs post) (hC : vwCl[ci]? = some (y.cls, T, N)) (hs : sh b = some (.inl ci)) (w1 : Cond.methodLink own idx y ∈ mW) (w2 : Cond.instanceMethod y ∈ mW) (w3 : Cond.selects y.cls y y ∈ mW) (w4 : Cond.initialized y.cls ∈ mW) (w5 : Cond.code y cc2 nL2 ret2 ∈ mW) (hd : y.cls ≠ "java/lang/invoke/MethodHandle" ∧ y.cls ≠ "java/lang/invoke/VarHandle" ∧ (parseMethodDescriptor y.desc).map (fun d => d.parameters.length) = some As.length) (hR : rm.frames + 1 ≤ R.frames ∧ 8 + (nL2 + 11) + rm.locals ≤ R.locals) (hcat : (st.map fun v => v.category).sum ≤ 8) (hp : pc + 3 = pc') (hstk : stk = As.reverse ++ .ref b :: st) (d : decode cc pc = .ok (.invokevirtual idx, 3)) (hroom : kc + rm.cells ≤ R.cells ∧ ks + rm.slots ≤ R.slots) (kk : ∀ (v : Option Value) (n' : Nat) (sh' : mSh) (P' : mPt) (D' : mDt) (E' : mEt), post v n' sh' P' D' E' → mV Γ Q (kc + rm.cells) (ks + rm.slots) n' sh' P' D' E' lv (v.toList ++ st) pc') : mV Γ Q kc ks n sh P D E lv stk pc := by
  obtain ⟨⟨p, l, e, R0, s, m, args, below, meth, c⟩, G, Y, base⟩ := Γ
  obtain ⟨hx, hb, hml, hown, hts, hK, hlk, hrt, hR, hbs, hκ⟩ := h
  subst hκ
  subst hR
  intro H locs ls hR1 hS hl
  refine mAfter (a := (Value.ref b :: As).toArray) hp hS hl ?_ kk
  exact va_runV (As := As) (rest := st) (nL := nL) (n := As.length) (Ts := mW) ⟨hx, hb, hml, hown, hts⟩ hM ⟨callB_of As.length hts (mGood w5) rfl rfl rfl (hts _ w4) (hts _ w1) hd hR, hts _ w2, hts _ w3⟩ ⟨mBlindS, va_recv hK.1 (mR_one hR1 hs) (ci := ci) (q0 := 0) hC rfl, mPreSOf hK hbs hS hR1 hX⟩ rfl rfl (by rw [← hml]; exact hl.1) hstk (lv_room hcat) d hroom
theorem S_callS (h : mOk Γ κ own cc nL ret R) (hX : mOkS Γ bs Ls xs) (pc' : Nat) {y : MethodName} {cc2 : ByteArray} {nL2 : Nat} {ret2 : Option FieldType} {rm : Room} {idx : Nat} {As stk : List Value} (hM : mSMet κ y cc2 nL2 ret2 rm As n sh P D E bs Ls xs post) (w1 : Cond.methodLink own idx y ∈ mW) (w2 : Cond.static y ∈ mW) (w4 : Cond.initialized y.cls ∈ mW) (w5 : Cond.code y cc2 nL2 ret2 ∈ mW) (hd : y.cls ≠ "java/lang/invoke/MethodHandle" ∧ y.cls ≠ "java/lang/invoke/VarHandle" ∧ (parseMethodDescriptor y.desc).map (fun d => d.parameters.length) = some As.length) (hR : rm.frames + 1 ≤ R.frames ∧ 8 + (nL2 + 11) + rm.locals ≤ R.locals) (hcat : (st.map fun v => v.category).sum ≤ 8) (hp : pc + 3 = pc') (hstk : stk = As.reverse ++ st) (d : decode cc pc = .ok (.invokestatic idx, 3)) (hroom : kc + rm.cells ≤ R.cells ∧ ks + rm.slots ≤ R.slots) (kk : ∀ (v : Option Value) (n' : Nat) (sh' : mSh) (P' : mPt) (D' : mDt) (E' : mEt), post v n' sh' P' D' E' → mV Γ Q (kc + rm.cells) (ks + rm.slots) n' sh' P' D' E' lv (v.toList ++ st) pc') : mV Γ Q kc ks n sh P D E lv stk pc := by
  obtain ⟨⟨p, l, e, R0, s, m, args, below, meth, c⟩, G, Y, base⟩ := Γ
  obtain ⟨hx, hb, hml, hown, hts, hK, hlk, hrt, hR, hbs, hκ⟩ := h
  subst hκ
  subst hR
  intro H locs ls hR1 hS hl
  refine mAfter (a := As.toArray) hp hS hl ?_ kk
  exact va_runS (As := As) (rest := st) (nL := nL) (n := As.length) (Ts := mW) ⟨hx, hb, hml, hown, hts⟩ hM ⟨callB_of As.length hts (mGood w5) rfl rfl rfl (hts _ w4) (hts _ w1) hd hR, hts _ w2⟩ ⟨mBlindS, mPreSOf hK hbs hS hR1 hX⟩ rfl rfl (by rw [← hml]; exact hl.1) hstk (lv_room hcat) d hroom
theorem S_callSN (h : mOk Γ κ own cc nL ret R) (hX : mOkS Γ bs Ls xs) (pc' : Nat) {y : MethodName} {cc2 : ByteArray} {nL2 : Nat} {ret2 : Option FieldType} {rm : Room} {idx : Nat} {As stk : List Value} {host : String} (hM : mSMet κ y cc2 nL2 ret2 rm As n sh P D E bs Ls xs post) (w1 : Cond.methodLinkNest own idx y host ∈ mNest) (w2 : Cond.static y ∈ mW) (w4 : Cond.initialized y.cls ∈ mW) (w5 : Cond.code y cc2 nL2 ret2 ∈ mW) (hd : y.cls ≠ "java/lang/invoke/MethodHandle" ∧ y.cls ≠ "java/lang/invoke/VarHandle" ∧ (parseMethodDescriptor y.desc).map (fun d => d.parameters.length) = some As.length) (hR : rm.frames + 1 ≤ R.frames ∧ 8 + (nL2 + 11) + rm.locals ≤ R.locals) (hcat : (st.map fun v => v.category).sum ≤ 8) (hp : pc + 3 = pc') (hstk : stk = As.reverse ++ st) (d : decode cc pc = .ok (.invokestatic idx, 3)) (hroom : kc + rm.cells ≤ R.cells ∧ ks + rm.slots ≤ R.slots) (kk : ∀ (v : Option Value) (n' : Nat) (sh' : mSh) (P' : mPt) (D' : mDt) (E' : mEt), post v n' sh' P' D' E' → mV Γ Q (kc + rm.cells) (ks + rm.slots) n' sh' P' D' E' lv (v.toList ++ st) pc') : mV Γ Q kc ks n sh P D E lv stk pc := by
  obtain ⟨⟨p, l, e, R0, s, m, args, below, meth, c⟩, G, Y, base⟩ := Γ
  obtain ⟨hx, hb, hml, hown, hts, hK, hlk, hrt, hR, hbs, hκ⟩ := h
  subst hκ
  subst hR
  intro H locs ls hR1 hS hl
  refine mAfter (a := As.toArray) hp hS hl ?_ kk
  exact va_runSN (As := As) (rest := st) (nL := nL) (n := As.length) (Ts := mW) ⟨hx, hb, hml, hown, hts⟩ hM ⟨va_cnB As.length hts (mGood w5) rfl rfl rfl (hK.2.1 _ w1) (hts _ w4) hd hR, hts _ w2, trivial⟩ ⟨mBlindS, mPreSOf hK hbs hS hR1 hX⟩ rfl rfl (by rw [← hml]; exact hl.1) hstk (lv_room hcat) d hroom
theorem S_callI (h : mOk Γ κ own cc nL ret R) (hX : mOkS Γ bs Ls xs) (pc' : Nat) {y : MethodName} {cc2 : ByteArray} {nL2 : Nat} {rm : Room} {idx : Nat} {As stk : List Value} {b : Nat} (hM : mSMet κ y cc2 nL2 none rm (.ref b :: As) n sh P D E bs Ls xs post) (hin : y.name = "<init>") (w1 : Cond.methodLink own idx y ∈ mW) (w2 : Cond.instanceMethod y ∈ mW) (w4 : Cond.initialized y.cls ∈ mW) (w5 : Cond.code y cc2 nL2 none ∈ mW) (hd : y.cls ≠ "java/lang/invoke/MethodHandle" ∧ y.cls ≠ "java/lang/invoke/VarHandle" ∧ (parseMethodDescriptor y.desc).map (fun d => d.parameters.length) = some As.length) (hR : rm.frames + 1 ≤ R.frames ∧ 8 + (nL2 + 11) + rm.locals ≤ R.locals) (hcat : (st.map fun v => v.category).sum ≤ 8) (hp : pc + 3 = pc') (hstk : stk = As.reverse ++ .ref b :: st) (d : decode cc pc = .ok (.invokespecial idx, 3)) (hroom : kc + rm.cells ≤ R.cells ∧ ks + rm.slots ≤ R.slots) (kk : ∀ (v : Option Value) (n' : Nat) (sh' : mSh) (P' : mPt) (D' : mDt) (E' : mEt), post v n' sh' P' D' E' → mV Γ Q (kc + rm.cells) (ks + rm.slots) n' sh' P' D' E' lv (v.toList ++ st) pc') : mV Γ Q kc ks n sh P D E lv stk pc := by
  obtain ⟨⟨p, l, e, R0, s, m, args, below, meth, c⟩, G, Y, base⟩ := Γ
  obtain ⟨hx, hb, hml, hown, hts, hK, hlk, hrt, hR, hbs, hκ⟩ := h
  subst hκ
  subst hR
  intro H locs ls hR1 hS hl
  refine mAfter (a := (Value.ref b :: As).toArray) hp hS hl ?_ kk
  exact va_runI (As := As) (rest := st) (nL := nL) (n := As.length) (Ts := mW) ⟨hx, hb, hml, hown, hts⟩ hM ⟨callB_of As.length hts (mGood w5) rfl rfl rfl (hts _ w4) (hts _ w1) hd hR, hin, hts _ w2⟩ ⟨mBlindS, mPreSOf hK hbs hS hR1 hX⟩ rfl rfl (by rw [← hml]; exact hl.1) hstk (lv_room hcat) d hroom
/-- behind a call that doesn't throw, though its contract leaves it open -/
theorem mAfterN {p : Program} {l : Launch} {e : Env} {R0 : Room} {s : State} {m : MethodId} {args : Array Value} {below : List Frame} {meth : Method} {c : Code} {G : va_G} {Y : Nat → ClassId} {base mc' ms' pc' : Nat} {px1 : mXP} {H : Heap} {locs : List Loc} {ls : Array Slot} {stk : List Value} {a : Array Value} (hp : pc + 3 = pc') (hS : va_S (fun q => base ≤ q) s.heap H locs) (hl : lv_has ls c.maxLocals lv)
    (hr : vx_Run p l e R0 s m args below meth c H locs kc ks mc' ms' (F0 m pc ls stk) st (mQ G Y base post a) (mXC G Y base px1) (fun q => base ≤ q)) (hno : ∀ (X : String) (n' : Nat) (sh' : mSh) (P' : mPt) (D' : mDt) (E' : mEt), ¬ px1 X n' sh' P' D' E')
    (kk : ∀ (v : Option Value) (n' : Nat) (sh' : mSh) (P' : mPt) (D' : mDt) (E' : mEt), post v n' sh' P' D' E' → mV ((p, l, e, R0, s, m, args, below, meth, c), (G, Y, base)) Q (kc + mc') (ks + ms') n' sh' P' D' E' lv (v.toList ++ st) pc') : W p l e R0 s m args below meth c H locs kc ks Q (F0 m pc ls stk) := by
  subst hp
  intro T hT X
  rcases hr T hT X with ⟨v, st₀, t, T', L, h0, X', hL, e1, e2, ⟨⟨v', n', sh', P', D', E', hv, hpo, hR'⟩, hF⟩, stp⟩ | ⟨q, st₀, t, T', L, X1, ce, h0, X', hL, e1, e2, ⟨⟨n', sh', P', D', E', hpo, hR'⟩, hF⟩, hce, hcv, hcl, stp⟩
  · cases hv
    obtain ⟨-, -, k3⟩ := vx_keep (A1 := fun q => base ≤ q) h0 e1 hS (fun _ _ z => z) (fun _ z => z) hL hF
    obtain ⟨t2, a1, b1⟩ := kk v n' sh' P' D' E' hpo T'.heap (locs ++ L) ls (by rw [e1]; exact hR') k3 hl T' rfl X'
    exact ⟨t2, stp t2 a1, b1⟩
  · exact absurd hpo (hno _ _ _ _ _ _)

theorem N_callV (h : mOk Γ κ own cc nL ret R) (hX : mOkS Γ bs Ls xs) (pc' : Nat) {y : MethodName} {cc2 : ByteArray} {nL2 : Nat} {ret2 : Option FieldType} {rm : Room} {idx : Nat} {As stk : List Value} {px1 : mXP} {ci b N : Nat} {T : u_T} (hM : mXMet κ y cc2 nL2 ret2 rm (.ref b :: As) n sh P D E post px1) (hC : vwCl[ci]? = some (y.cls, T, N)) (hs : sh b = some (.inl ci)) (w1 : Cond.methodLink own idx y ∈ mW) (w2 : Cond.instanceMethod y ∈ mW) (w3 : Cond.selects y.cls y y ∈ mW) (w4 : Cond.initialized y.cls ∈ mW) (w5 : Cond.code y cc2 nL2 ret2 ∈ mW) (hd : y.cls ≠ "java/lang/invoke/MethodHandle" ∧ y.cls ≠ "java/lang/invoke/VarHandle" ∧ (parseMethodDescriptor y.desc).map (fun d => d.parameters.length) = some As.length) (hR : rm.frames + 1 ≤ R.frames ∧ 8 + (nL2 + 11) + rm.locals ≤ R.locals) (hcat : (st.map fun v => v.category).sum ≤ 8) (hp : pc + 3 = pc') (hstk : stk = As.reverse ++ .ref b :: st) (d : decode cc pc = .ok (.invokevirtual idx, 3)) (hno : ∀ (X : String) (n' : Nat) (sh' : mSh) (P' : mPt) (D' : mDt) (E' : mEt), ¬ px1 X n' sh' P' D' E') (hroom : kc + rm.cells ≤ R.cells ∧ ks + rm.slots ≤ R.slots) (kk : ∀ (v : Option Value) (n' : Nat) (sh' : mSh) (P' : mPt) (D' : mDt) (E' : mEt), post v n' sh' P' D' E' → mV Γ Q (kc + rm.cells) (ks + rm.slots) n' sh' P' D' E' lv (v.toList ++ st) pc') : mV Γ Q kc ks n sh P D E lv stk pc := by
  obtain ⟨⟨p, l, e, R0, s, m, args, below, meth, c⟩, G, Y, base⟩ := Γ
  obtain ⟨hx, hb, hml, hown, hts, hK, hlk, hrt, hR, hbs, hκ⟩ := h
  subst hκ
  subst hR
  intro H locs ls hR1 hS hl
  refine mAfterN (a := (Value.ref b :: As).toArray) hp hS hl ?_ hno kk
  exact vx_runV (As := As) (rest := st) (nL := nL) (n := As.length) (Ts := mW) ⟨hx, hb, hml, hown, hts⟩ hM ⟨callB_of As.length hts (mGood w5) rfl rfl rfl (hts _ w4) (hts _ w1) hd hR, hts _ w2, hts _ w3⟩ ⟨mBlindX, va_recv hK.1 (mR_one hR1 hs) (ci := ci) (q0 := 0) hC rfl, mPreXOf hK hbs hS hR1 hX.1⟩ rfl rfl (by rw [← hml]; exact hl.1) hstk (lv_room hcat) d hroom
theorem NVI (h : mOk Γ κ own cc nL ret R) (hX : mOkS Γ bs Ls xs) (kc' ks' pc' : Nat) {y : MethodName} {cc2 : ByteArray} {nL2 : Nat} {ret2 : Option FieldType} {fr lo ce sl : Nat} {idx : Nat} {As stk : List Value} {ci b N : Nat} {T : u_T} {post : Int32 → mDt → Prop} {K1 : String → Prop} (hM : mXnI κ y cc2 nL2 ret2 fr lo ce sl (.ref b :: As) n sh P D E post K1) (hC : vwCl[ci]? = some (y.cls, T, N)) (hs : sh b = some (.inl ci)) (w1 : Cond.methodLink own idx y ∈ mW) (w2 : Cond.instanceMethod y ∈ mW) (w3 : Cond.selects y.cls y y ∈ mW) (w4 : Cond.initialized y.cls ∈ mW) (w5 : Cond.code y cc2 nL2 ret2 ∈ mW) (hd : y.cls ≠ "java/lang/invoke/MethodHandle" ∧ y.cls ≠ "java/lang/invoke/VarHandle" ∧ (parseMethodDescriptor y.desc).map (fun d => d.parameters.length) = some As.length) (hR : fr + 1 ≤ R.frames ∧ 8 + (nL2 + 11) + lo ≤ R.locals) (hcat : (st.map fun v => v.category).sum ≤ 8) (hp : pc + 3 = pc') (hstk : stk = As.reverse ++ .ref b :: st) (d : decode cc pc = .ok (.invokevirtual idx, 3)) (hroom : kc + ce ≤ R.cells ∧ ks + sl ≤ R.slots) (ekc : kc + ce = kc') (eks : ks + sl = ks') (hK : ∀ X, ¬ K1 X) (kk : ∀ (r : Int32) (D' : mDt), post r D' → mV Γ Q kc' ks' n sh P D' E lv (.int r :: st) pc') : mV Γ Q kc ks n sh P D E lv stk pc := by
  subst ekc
  subst eks
  refine N_callV h hX pc' (rm := { frames := fr, cells := ce, slots := sl, locals := lo }) hM hC hs w1 w2 w3 w4 w5 hd hR hcat hp hstk d ?_ hroom ?_
  · rintro X n' sh' P' D' E' ⟨h1, -⟩
    exact hK X h1
  · intro v n' sh' P' D' E' hq
    obtain ⟨rfl, rfl, rfl, rfl, r, rfl, hq⟩ := hq
    exact kk r D' hq
theorem V_sld (h : mOk Γ κ own cc nL ret R) (hX : mOkS Γ bs Ls xs) (pc' : Nat) (j : Nat) {i : Int32} (hi : i = nI j) (hj : j < Ls) (hlen : Ls < 2 ^ 31) (d : decode cc pc = .ok (.iaload, 1)) (hp : pc + 1 = pc') (kk : mV Γ Q kc ks n sh P D E lv (.int (xs j) :: st) pc') : mV Γ Q kc ks n sh P D E lv (.int i :: .ref bs :: st) pc := by
  obtain ⟨⟨p, l, e, R0, s, m, args, below, meth, c⟩, G, Y, base⟩ := Γ
  obtain ⟨hx, hb, hml, hown, hts, hK, hlk, hrt, hR, hbs, hκ⟩ := h
  obtain ⟨x0, x1, x3⟩ := hX
  subst hp
  subst hi
  intro H locs ls hR1 hS hl
  have h1 := kk H locs ls hR1 hS hl
  refine va_sld hx hb x1 (Nat.lt_of_lt_of_le x3 hbs) (by show ¬ base ≤ bs; omega) hS (vp_in_nI hj hlen) d ?_
  rw [nI_clamp (show j < 2 ^ 31 by omega)]
  exact h1
theorem V_slen (h : mOk Γ κ own cc nL ret R) (hX : mOkS Γ bs Ls xs) (pc' : Nat) (d : decode cc pc = .ok (.arraylength, 1)) (hp : pc + 1 = pc') (kk : mV Γ Q kc ks n sh P D E lv (.int (nI Ls) :: st) pc') : mV Γ Q kc ks n sh P D E lv (.ref bs :: st) pc := by
  obtain ⟨⟨p, l, e, R0, s, m, args, below, meth, c⟩, G, Y, base⟩ := Γ
  obtain ⟨hx, hb, hml, hown, hts, hK, hlk, hrt, hR, hbs, hκ⟩ := h
  obtain ⟨x0, x1, x3⟩ := hX
  subst hp
  intro H locs ls hR1 hS hl
  exact va_slen hx hb x1 (Nat.lt_of_lt_of_le x3 hbs) (by show ¬ base ≤ bs; omega) hS d (kk H locs ls hR1 hS hl)
theorem V_ishr (h : mOk Γ κ own cc nL ret R) (pc' : Nat) {x y : Int32} (d : decode cc pc = .ok (.ishr, 1)) (hp : pc + 1 = pc') (k : mV Γ Q kc ks n sh P D E lv (.int (x >>> (y &&& 31)) :: st) pc') : mV Γ Q kc ks n sh P D E lv (.int y :: .int x :: st) pc := by
  obtain ⟨⟨p, l, e, R0, s, m, args, below, meth, c⟩, G, Y, base⟩ := Γ
  obtain ⟨hx, hb, hml, hown, hts, hK, hlk, hrt, hR, hbs, hκ⟩ := h
  subst hp
  intro H locs ls hR1 hS hl
  exact lv_ishr hx hb d (k H locs ls hR1 hS hl)
theorem V_ldc (h : mOk Γ κ own cc nL ret R) (pc' : Nat) {idx : Nat} {v : Int32} (w : Cond.constant own idx v ∈ mW) (d : decode cc pc = .ok (.ldc idx, 2)) (hp : pc + 2 = pc') (k : mV Γ Q kc ks n sh P D E lv (.int v :: st) pc') : mV Γ Q kc ks n sh P D E lv st pc := by
  obtain ⟨⟨p, l, e, R0, s, m, args, below, meth, c⟩, G, Y, base⟩ := Γ
  obtain ⟨hx, hb, hml, hown, hts, hK, hlk, hrt, hR, hbs, hκ⟩ := h
  subst hp
  intro H locs ls hR1 hS hl
  exact lv_ldc hx hb hown (hts _ w) d (k H locs ls hR1 hS hl)
/-- a row of rows, as yet empty -/
theorem V_newR (h : mOk Γ κ own cc nL ret R) (pc' n' kc' ks' : Nat) {len idx : Nat} {i : Int32} (w1 : Cond.classLink own idx "[I" ∈ mW) (hi : i = nI len) (hlen : len * 4 ≤ 536870912) (hcells : kc + 1 ≤ R.cells) (hslots : ks + len ≤ R.slots) (d : decode cc pc = .ok (.anewarray idx, 3)) (hp : pc + 3 = pc') (hn : n + 1 = n') (hkc : kc + 1 = kc') (hks : ks + len = ks')
    (kk : mV Γ Q kc' ks' n' (updS sh n (.inr (2, len))) (clrP P n) (clrD D n) E lv (.ref n :: st) pc') : mV Γ Q kc ks n sh P D E lv (.int i :: st) pc := by
  obtain ⟨⟨p, l, e, R0, s, m, args, below, meth, c⟩, G, Y, base⟩ := Γ
  obtain ⟨hx, hb, hml, hown, hts, hK, hlk, hrt, hR, hbs, hκ⟩ := h
  subst hp hn hkc hks
  subst hR
  subst hi
  intro H locs ls hR1 hS hl
  have hl31 : len < 2 ^ 31 := by omega
  obtain ⟨comp', cA', kA', a1, a2, a3, a4, a5⟩ := mAO2_spec hK.2.2.2
  obtain ⟨ArrT, g4⟩ := hK.1.2 2 _ rfl
  refine W.anewA (t := .int) hx hb hown (hts _ w1) hK.2.2.2 rfl d rfl (nI_pos hl31) (by rw [nI_clamp hl31]; exact hlen) hcells (by rw [nI_clamp hl31]; exact hslots) fun cA kA comp f1 f2 f3 f4 => ?_
  have hcA : cA = Y 2 := Option.some.inj (f1.symm.trans g4)
  subst hcA
  have hz := hR1.1
  rw [nI_clamp hl31]
  generalize hH1 : H.push ({ cls := Y 2, slots := Array.replicate len .null, vm := .none } : Cell) = H1
  have z1 : H1.size = H.size + 1 := by rw [← hH1, Array.size_push]
  have e1 : H1[H.size]? = some (arrV (Y 2) len (fun _ => .null)) := by rw [← hH1, Array.getElem?_push_size, ← arrV_new]
  have o1 : ∀ q : Nat, q < H.size → H1[q]? = H[q]? := fun q hq => by rw [← hH1, Array.getElem?_push, if_neg (Nat.ne_of_lt hq)]
  rw [hz] at e1 z1 o1 ⊢
  have hb2 : base ≤ n := by rw [← hz]; exact Nat.le_trans hbs hS.1
  refine kk H1 locs ls (mR_new hR1 hb2 z1 ?_ o1 (fun b hb => clrP_ne hb) (fun b hb => clrD_ne hb) (fun _ _ => rfl)) ⟨by rw [z1]; have := hS.1; omega, fun x h1 h2 => (o1 x (by have := hS.1; omega)).trans (hS.2.1 x h1 h2), hS.2.2⟩ hl
  show H1[n]? = some (vp_cell (Y 2) (len, .inr (.inr (.inr (.inr (clrP P n n))))))
  rw [clrP_eq, vp_cell_q]
  exact e1
end MNX
