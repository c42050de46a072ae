/-! methods that throw: IllegalArgumentException, IllegalStateException, IndexOutOfBoundsException, made by the class OasisBooks itself -/
abbrev xNm : List String := ["java/lang/RuntimeException", "java/lang/Exception"]
abbrev xA : String := "java/lang/IllegalArgumentException"
abbrev xS : String := "java/lang/IllegalStateException"
abbrev xI : String := "java/lang/IndexOutOfBoundsException"
def mNestX : List Cond := ((vx_at0 RX5 232 xA xNm ++ vx_at0 RX5 235 xS xNm) ++ vx_at0 RX5 238 xI xNm).filter (fun w => !goodWord w)
def mNkX : Cond → Bool
  | .castable _ _ => true
  | .declares _ => true
  | _ => false
theorem mNestX_k : ∀ w ∈ mNestX, mNkX w = true := by decide +kernel
theorem mNkX_on {w : Cond} (h : mNkX w = true) : w.onTables = true := by
  cases w <;> first | rfl | exact absurd h (by simp [mNkX])
theorem mNkX_warm {w : Cond} (h : mNkX w = true) {s U : State} (hW : s.WarmedH U.vm) (hZ : va_Nw w s) : va_Nw w U := by
  cases w <;> first | exact va_Nw.warmC hW hZ | exact va_Nw.warmD hW hZ | exact absurd h (by simp [mNkX])
def mPx (base : Nat) (U : State) : Prop := (∀ w ∈ mNestX, va_Nw w U) ∧ vx_Zq Bundle.tN "UNASSIGNED_STACK" Bundle.steD (fun q => base ≤ q) U U.heap ∧ vx_Zq Bundle.tN "SUPPRESSED_SENTINEL" Bundle.listD (fun q => base ≤ q) U U.heap
theorem mPx_move {base : Nat} {s U : State} (hW : s.WarmedH U.vm) (hk : ∀ q : Nat, q < s.heap.size → ¬ base ≤ q → U.heap[q]? = s.heap[q]?) (h : mPx base s) : mPx base U := ⟨fun w hw => mNkX_warm (mNestX_k w hw) hW (h.1 w hw), (h.2.1.moved hW.alike).kept hk, (h.2.2.moved hW.alike).kept hk⟩
theorem mPx_same {base : Nat} {s U : State} (hv : s.vm = U.vm) (hh : U.heap = s.heap) (h : mPx base s) : mPx base U := ⟨fun w hw => va_Nw.same (mNkX_on (mNestX_k w hw)) hv (h.1 w hw), by rw [hh]; exact h.2.1.moved (by rw [hv]; exact Vm.Alike.refl _), by rw [hh]; exact h.2.2.moved (by rw [hv]; exact Vm.Alike.refl _)⟩
abbrev mXP : Type := String → Nat → mSh → mPt → mDt → mEt → Prop
def mXC (G : va_G) (Y : Nat → ClassId) (base : Nat) (px : mXP) : String → State → State → Prop := fun X st t => (∃ (n' : Nat) (sh' : mSh) (P' : mPt) (D' : mDt) (E' : mEt), px X n' sh' P' D' E' ∧ mR G Y base n' sh' P' D' E' t.heap) ∧ va_F (fun q => base ≤ q) st t
def mPreX (G : va_G) (Y : Nat → ClassId) (base n : Nat) (sh : mSh) (P : mPt) (D : mDt) (E : mEt) (U : State) : Prop := mPre G Y base n sh P D E U ∧ mPx base U
/-- y's contract where it may throw -/
def mXMet (κ : mKp) (y : MethodName) (cc : ByteArray) (nL : Nat) (ret : Option FieldType) (rm : Room) (As : List Value) (n : Nat) (sh : mSh) (P : mPt) (D : mDt) (E : mEt) (post : mPost) (px : mXP) : Prop := match κ with
  | (l, G, Y, base) => vx_Met l y (.code y cc nL ret :: mW) rm (va_Pc As (mPreX G Y base n sh P D E)) (mQ G Y base post) (mXC G Y base px) rm.cells rm.slots (fun q => base ≤ q)
def mEndX (Γ : mC) (post : mPost) (px : mXP) (mc ms : Nat) : State → Prop := match Γ with
  | ((p, l, e, R, s, m, args, below, meth, c), (G, Y, base)) => vx_MQ below (mQ G Y base post) (mXC G Y base px) args s mc ms (fun q => base ≤ q)
/-- what a method that may throw knows besides: no handlers, the words, the statics -/
def mOkX (Γ : mC) : Prop := match Γ with
  | ((p, l, e, R, s, m, args, below, meth, c), (G, Y, base)) => (∀ x ∈ c.exceptionTable.toList, False) ∧ mPx base s ∧ l.stackTraces = false
theorem mBlindX {As : List Value} {G : va_G} {Y : Nat → ClassId} {base n : Nat} {sh : mSh} {P : mPt} {D : mDt} {E : mEt} : FrameBlind (va_Pc As (mPreX G Y base n sh P D E)) := fun a U g mk q => by
  obtain ⟨q0, ⟨qK, q1, q2⟩, q3⟩ := q
  exact ⟨q0, ⟨mKx_same (s := U) (U := U.calling g mk a) rfl qK, q1, q2⟩, mPx_same (s := U) (U := U.calling g mk a) rfl rfl q3⟩
theorem mXMet_of {κ : mKp} {y : MethodName} {cc : ByteArray} {nL : Nat} {ret : Option FieldType} {rm : Room} {As : List Value} {n : Nat} {sh : mSh} {P : mPt} {D : mDt} {E : mEt} {post : mPost} {px : mXP} (hst : κ.1.stackTraces = false) (hy : plainName y.cls = true) (hlen : (lg_sl As).length ≤ nL)
    (body : ∀ (Γ : mC) (Q : State → Prop), Q = mEndX Γ post px rm.cells rm.slots → mOk Γ κ y.cls cc nL ret rm → mOkX Γ → mV Γ Q 0 0 n sh P D E (lv_args 0 As) [] 0) : mXMet κ y cc nL ret rm As n sh P D E post px := by
  obtain ⟨l, G, Y, base⟩ := κ
  refine vx_ofW (cc := cc) (maxL := nL) (ret := ret) hy rfl ?_
  intro p e s m args below meth c s₁ B hml hnox hv
  obtain ⟨rfl, ⟨hK, hbn, hR⟩, hPx⟩ := hv
  have hts := atoms_spec (ws := Cond.code y cc nL ret :: mW) B.pre
  have hown : s.vm.findClass y.cls = some m.cls := findClass_of_methodNamed B.named
  have hbs : base ≤ s.heap.size := by rw [hR.1]; exact hbn
  have hok : mOk ((p, l, e, (headSpec (Cond.code y cc nL ret :: mW) rm).room, s, m, As.toArray, below, meth, c), (G, Y, base)) (l, G, Y, base) y.cls cc nL ret rm := ⟨B.exec, B.bytes, hml, hown, fun w hw => hts w (List.mem_cons_of_mem _ hw), hK, B.notSynchronized, B.returns, rfl, hbs, rfl⟩
  have hl := lv_entry As (n := nL) hlen
  rw [lg_entry_eq]
  have hb0 := body _ _ rfl hok ⟨hnox, hPx, hst⟩ s.heap [] _ hR va_S.rf (show lv_has _ c.maxLocals _ by rw [hml]; exact hl)
  exact hb0
theorem mR_grow {G : va_G} {Y : Nat → ClassId} {base n : Nat} {sh : mSh} {P : mPt} {D : mDt} {E : mEt} {H H1 : Heap} (h : mR G Y base n sh P D E H) (hk : ∀ q : Nat, q < H.size → H1[q]? = H[q]?) : mR G Y base H1.size sh P D E H1 := ⟨rfl, fun a x hx => ⟨(h.2 a x hx).1, (h.2 a x hx).2.kept (hk a (h.2 a x hx).2.lt)⟩⟩
section MXX
variable {Γ : mC} {κ : mKp} {Q : State → Prop} {kc ks n : Nat} {sh : mSh} {P : mPt} {D : mDt} {E : mEt} {lv : List (Nat × Value)} {st : List Value} {pc : Nat} {own : String} {cc : ByteArray} {nL : Nat} {ret : Option FieldType} {R : Room} {post : mPost} {px : mXP} {mc ms : Nat}

theorem X_iret {ty : FieldType} (h : mOk Γ κ own cc nL (some ty) R) {v : Int32} (hn : narrow ty (.int v) = .int v) (hQ : Q = mEndX Γ post px mc ms) (hc : kc ≤ mc) (hs : ks ≤ ms) (hpost : post (some (.int v)) n sh P D E) (d : decode cc pc = .ok (.ireturn, 1)) : mV Γ Q kc ks n sh P D E lv [.int v] pc := by
  obtain ⟨⟨p, l, e, R0, s, m, args, below, meth, c⟩, G, Y, base⟩ := Γ
  obtain ⟨hx, hb, hml, hown, hts, hK, hlk, hrt, hR, hbs, hκ⟩ := h
  subst hQ
  intro H locs ls hR1 hS hl
  refine vx_ret (W.widen hc hs ?_)
  exact W.zret hx hb hrt hn (fun t ht hW => ⟨⟨_, _, _, _, _, _, rfl, hpost, by rw [ht]; exact hR1⟩, hS.F ht⟩) (fun q hq => hS.2.2 q hq) d hlk
theorem X_lret {ty : FieldType} (h : mOk Γ κ own cc nL (some ty) R) {v : Int64} (hn : ty = .long) (hQ : Q = mEndX Γ post px mc ms) (hc : kc ≤ mc) (hs : ks ≤ ms) (hpost : post (some (.long v)) n sh P D E) (d : decode cc pc = .ok (.lreturn, 1)) : mV Γ Q kc ks n sh P D E lv [.long v] pc := by
  obtain ⟨⟨p, l, e, R0, s, m, args, below, meth, c⟩, G, Y, base⟩ := Γ
  obtain ⟨hx, hb, hml, hown, hts, hK, hlk, hrt, hR, hbs, hκ⟩ := h
  subst hQ
  intro H locs ls hR1 hS hl
  refine vx_ret (W.widen hc hs ?_)
  exact W.lret hx hb (by rw [hrt, hn]) (fun t ht hW => ⟨⟨_, _, _, _, _, _, rfl, hpost, by rw [ht]; exact hR1⟩, hS.F ht⟩) (fun q hq => hS.2.2 q hq) d hlk
theorem X_ret (h : mOk Γ κ own cc nL none R) (hQ : Q = mEndX Γ post px mc ms) (hc : kc ≤ mc) (hs : ks ≤ ms) (hpost : post none n sh P D E) (d : decode cc pc = .ok (.return_, 1)) : mV Γ Q kc ks n sh P D E lv [] pc := by
  obtain ⟨⟨p, l, e, R0, s, m, args, below, meth, c⟩, G, Y, base⟩ := Γ
  obtain ⟨hx, hb, hml, hown, hts, hK, hlk, hrt, hR, hbs, hκ⟩ := h
  subst hQ
  intro H locs ls hR1 hS hl
  refine vx_ret (W.widen hc hs ?_)
  exact W.vret hx hb hrt (fun t ht hW => ⟨⟨_, _, _, _, _, _, rfl, hpost, by rw [ht]; exact hR1⟩, hS.F ht⟩) (fun q hq => hS.2.2 q hq) d hlk
theorem X_throw (h : mOk Γ κ RX5 cc nL ret R) (hX : mOkX Γ) (hQ : Q = mEndX Γ post px mc ms) {cls : String} {ik ic : Nat} (hcls : Bundle.fit cls = true) (hk : Cond.classLink RX5 ik cls ∈ mW) (hini : Cond.initialized cls ∈ mW)
    (hg1 : ∀ w ∈ (vx_at0 RX5 ic cls xNm).filter goodWord, w ∈ mW) (hg2 : ∀ w ∈ (vx_at0 RX5 ic cls xNm).filter (fun w => !goodWord w), w ∈ mNestX) (hgood : ∀ w ∈ Cond.classLink RX5 ik cls :: Cond.initialized cls :: vx_at0 RX5 ic cls xNm, vx_ot w = true)
    (d0 : decode cc pc = .ok (.new ik, 3)) (d3 : decode cc (pc + 3) = .ok (.dup, 1)) (d4 : decode cc (pc + 4) = .ok (.invokespecial ic, 3)) (d7 : decode cc (pc + 7) = .ok (.athrow, 1))
    (hRf : 5 < R.frames) (hRl : (st.map fun v => v.category).sum + 81 ≤ R.locals) (hRc : kc + 1 ≤ R.cells) (hRs : ks + 6 ≤ R.slots) (hc : kc + 1 ≤ mc) (hs : ks + 6 ≤ ms) (hpx : ∀ n', n ≤ n' → px cls n' sh P D E) : mV Γ Q kc ks n sh P D E lv st pc := by
  obtain ⟨⟨p, l, e, R0, s, m, args, below, meth, c⟩, G, Y, base⟩ := Γ
  obtain ⟨hx, hb, hml, hown, hts, hK, hlk, hrt, hR, hbs, hκ⟩ := h
  obtain ⟨hno, hPx, hst⟩ := hX
  subst hQ
  subst hR
  intro H locs ls hR1 hS hl
  refine vx_throw0 (A := fun q => base ≤ q) (names := xNm) hx hb hst hown hcls (by decide) (hts _ hk) (hts _ hini) (vx_hat (fun w hw => hts w (hg1 w hw)) (B := mNestX) hg2 (fun w hw => va_Nw.use (mNkX_on (mNestX_k w hw)) (hPx.1 w hw))) hgood hPx.2.1 hPx.2.2 hS hl.1 d0 d3 d4 d7 (fun x hx1 => (hno x hx1).elim) hRf hRl hRc hRs hlk (fun t hv hz hk1 => ⟨⟨t.heap.size, sh, P, D, E, hpx _ (by rw [← hR1.1]; exact hz), mR_grow hR1 hk1⟩, Nat.le_trans hS.1 hz, fun q h1 h2 => by rw [hk1 q (Nat.lt_of_lt_of_le h1 hS.1)]; exact hS.2.1 q h1 h2⟩) (fun z hz => hS.2.2 z hz) hc hs
/-- behind a call that may throw, where what is thrown goes on -/
theorem mAfterX {p : Program} {l : Launch} {e : Env} {R0 : Room} {s : State} {m : MethodId} {args : Array Value} {below : List Frame} {meth : Method} {c : Code} {G : va_G} {Y : Nat → ClassId} {base mc' ms' pc' : Nat} {px1 : mXP} {H : Heap} {locs : List Loc} {ls : Array Slot} {stk : List Value} {a : Array Value} {post1 : mPost} (hno : ∀ x ∈ c.exceptionTable.toList, False) (hlk : meth.locks = false) (hp : pc + 3 = pc') (hS : va_S (fun q => base ≤ q) s.heap H locs) (hl : lv_has ls c.maxLocals lv)
    (hr : vx_Run p l e R0 s m args below meth c H locs kc ks mc' ms' (F0 m pc ls stk) st (mQ G Y base post1 a) (mXC G Y base px1) (fun q => base ≤ q)) (hQ : Q = vx_MQ below (mQ G Y base post) (mXC G Y base px) args s mc ms (fun q => base ≤ q)) (hc : kc + mc' ≤ mc) (hs : ks + ms' ≤ ms)
    (hpx : ∀ (X : String) (n' : Nat) (sh' : mSh) (P' : mPt) (D' : mDt) (E' : mEt), px1 X n' sh' P' D' E' → px X n' sh' P' D' E')
    (kk : ∀ (v : Option Value) (n' : Nat) (sh' : mSh) (P' : mPt) (D' : mDt) (E' : mEt), post1 v n' sh' P' D' E' → mV ((p, l, e, R0, s, m, args, below, meth, c), (G, Y, base)) Q (kc + mc') (ks + ms') n' sh' P' D' E' lv (v.toList ++ st) pc') : W p l e R0 s m args below meth c H locs kc ks Q (F0 m pc ls stk) := by
  subst hp
  intro T hT X
  rcases hr T hT X with ⟨v, st₀, t, T', L, h0, X', hL, e1, e2, ⟨⟨v', n', sh', P', D', E', hv, hpo, hR'⟩, hF⟩, stp⟩ | ⟨q, st₀, t, T', L, X1, ce, h0, X', hL, e1, e2, ⟨⟨n', sh', P', D', E', hpo, hR'⟩, hF⟩, hce, hcv, hcl, stp⟩
  · cases hv
    obtain ⟨-, -, k3⟩ := vx_keep (A1 := fun q => base ≤ q) h0 e1 hS (fun _ _ z => z) (fun _ z => z) hL hF
    obtain ⟨t2, a1, b1⟩ := kk v n' sh' P' D' E' hpo T'.heap (locs ++ L) ls (by rw [e1]; exact hR') k3 hl T' rfl X'
    exact ⟨t2, stp t2 a1, b1⟩
  · obtain ⟨-, -, k3⟩ := vx_keep (A1 := fun q => base ≤ q) h0 e1 hS (fun _ _ z => z) (fun _ z => z) hL hF
    subst hQ
    obtain ⟨t2, a1, b1⟩ := vx_out (pc := pc) (ls := ls) (rest := st) (Qc := mQ G Y base post) (XC := mXC G Y base px) (mc := mc) (ms := ms) (free := fun q => base ≤ q) (fun x hx => (hno x hx).elim) hlk (H := T'.heap) (by rw [e1]; exact hce) hcv hcl (fun t1 ht1 _ => ⟨⟨n', sh', P', D', E', hpx _ _ _ _ _ _ hpo, by rw [ht1, e1]; exact hR'⟩, k3.F ht1⟩) (fun z hz => k3.2.2 z hz) hc hs T' rfl X'
    exact ⟨t2, stp.trans a1, b1⟩
theorem mPreXOf {G : va_G} {Y : Nat → ClassId} {base : Nat} {s : State} {H : Heap} {locs : List Loc} {As : List Value} (hK : mKx G Y s) (hbs : base ≤ s.heap.size) (hS : va_S (fun q => base ≤ q) s.heap H locs) (hR1 : mR G Y base n sh P D E H) (hPx : mPx base s) : ∀ U : State, U.heap = H → s.WarmedH U.vm → va_Pc As (mPreX G Y base n sh P D E) As.toArray U := fun U hU hW => ⟨rfl, (mPreOf (As := As) hK hbs hS hR1 U hU hW).2, mPx_move hW (fun q h1 h2 => by rw [hU]; exact hS.2.1 q h1 h2) hPx⟩

theorem X_callV (h : mOk Γ κ own cc nL ret R) (hX : mOkX Γ) (hQ : Q = mEndX Γ post px mc ms) (pc' : Nat) {y : MethodName} {cc2 : ByteArray} {nL2 : Nat} {ret2 : Option FieldType} {rm : Room} {idx : Nat} {As stk : List Value} {post1 : mPost} {px1 : mXP} {ci b N : Nat} {T : u_T} (hM : mXMet κ y cc2 nL2 ret2 rm (.ref b :: As) n sh P D E post1 px1) (hC : vwCl[ci]? = some (y.cls, T, N)) (hs : sh b = some (.inl ci)) (w1 : Cond.methodLink own idx y ∈ mW) (w2 : Cond.instanceMethod y ∈ mW) (w3 : Cond.selects y.cls y y ∈ mW) (w4 : Cond.initialized y.cls ∈ mW) (w5 : Cond.code y cc2 nL2 ret2 ∈ mW) (hd : y.cls ≠ "java/lang/invoke/MethodHandle" ∧ y.cls ≠ "java/lang/invoke/VarHandle" ∧ (parseMethodDescriptor y.desc).map (fun d => d.parameters.length) = some As.length) (hR : rm.frames + 1 ≤ R.frames ∧ 8 + (nL2 + 11) + rm.locals ≤ R.locals) (hcat : (st.map fun v => v.category).sum ≤ 8) (hp : pc + 3 = pc') (hstk : stk = As.reverse ++ .ref b :: st) (d : decode cc pc = .ok (.invokevirtual idx, 3)) (hroom : kc + rm.cells ≤ R.cells ∧ ks + rm.slots ≤ R.slots) (hc : kc + rm.cells ≤ mc) (hs2 : ks + rm.slots ≤ ms) (hpx : ∀ (X : String) (n' : Nat) (sh' : mSh) (P' : mPt) (D' : mDt) (E' : mEt), px1 X n' sh' P' D' E' → px X n' sh' P' D' E') (kk : ∀ (v : Option Value) (n' : Nat) (sh' : mSh) (P' : mPt) (D' : mDt) (E' : mEt), post1 v n' sh' P' D' E' → mV Γ Q (kc + rm.cells) (ks + rm.slots) n' sh' P' D' E' lv (v.toList ++ st) pc') : mV Γ Q kc ks n sh P D E lv stk pc := by
  obtain ⟨⟨p, l, e, R0, s, m, args, below, meth, c⟩, G, Y, base⟩ := Γ
  obtain ⟨hx, hb, hml, hown, hts, hK, hlk, hrt, hR, hbs, hκ⟩ := h
  obtain ⟨hno, hPx, hst⟩ := hX
  subst hκ
  subst hR
  intro H locs ls hR1 hS hl
  refine mAfterX (a := (Value.ref b :: As).toArray) hno hlk hp hS hl ?_ hQ hc hs2 hpx kk
  exact vx_runV (As := As) (rest := st) (nL := nL) (n := As.length) (Ts := mW) ⟨hx, hb, hml, hown, hts⟩ hM ⟨callB_of As.length hts (mGood w5) rfl rfl rfl (hts _ w4) (hts _ w1) hd hR, hts _ w2, hts _ w3⟩ ⟨mBlindX, va_recv hK.1 (mR_one hR1 hs) (ci := ci) (q0 := 0) hC rfl, mPreXOf hK hbs hS hR1 hPx⟩ rfl rfl (by rw [← hml]; exact hl.1) hstk (lv_room hcat) d hroom
theorem X_callS (h : mOk Γ κ own cc nL ret R) (hX : mOkX Γ) (hQ : Q = mEndX Γ post px mc ms) (pc' : Nat) {y : MethodName} {cc2 : ByteArray} {nL2 : Nat} {ret2 : Option FieldType} {rm : Room} {idx : Nat} {As stk : List Value} {post1 : mPost} {px1 : mXP} (hM : mXMet κ y cc2 nL2 ret2 rm As n sh P D E post1 px1) (w1 : Cond.methodLink own idx y ∈ mW) (w2 : Cond.static y ∈ mW) (w4 : Cond.initialized y.cls ∈ mW) (w5 : Cond.code y cc2 nL2 ret2 ∈ mW) (hd : y.cls ≠ "java/lang/invoke/MethodHandle" ∧ y.cls ≠ "java/lang/invoke/VarHandle" ∧ (parseMethodDescriptor y.desc).map (fun d => d.parameters.length) = some As.length) (hR : rm.frames + 1 ≤ R.frames ∧ 8 + (nL2 + 11) + rm.locals ≤ R.locals) (hcat : (st.map fun v => v.category).sum ≤ 8) (hp : pc + 3 = pc') (hstk : stk = As.reverse ++ st) (d : decode cc pc = .ok (.invokestatic idx, 3)) (hroom : kc + rm.cells ≤ R.cells ∧ ks + rm.slots ≤ R.slots) (hc : kc + rm.cells ≤ mc) (hs2 : ks + rm.slots ≤ ms) (hpx : ∀ (X : String) (n' : Nat) (sh' : mSh) (P' : mPt) (D' : mDt) (E' : mEt), px1 X n' sh' P' D' E' → px X n' sh' P' D' E') (kk : ∀ (v : Option Value) (n' : Nat) (sh' : mSh) (P' : mPt) (D' : mDt) (E' : mEt), post1 v n' sh' P' D' E' → mV Γ Q (kc + rm.cells) (ks + rm.slots) n' sh' P' D' E' lv (v.toList ++ st) pc') : mV Γ Q kc ks n sh P D E lv stk pc := by
  obtain ⟨⟨p, l, e, R0, s, m, args, below, meth, c⟩, G, Y, base⟩ := Γ
  obtain ⟨hx, hb, hml, hown, hts, hK, hlk, hrt, hR, hbs, hκ⟩ := h
  obtain ⟨hno, hPx, hst⟩ := hX
  subst hκ
  subst hR
  intro H locs ls hR1 hS hl
  refine mAfterX (a := As.toArray) hno hlk hp hS hl ?_ hQ hc hs2 hpx kk
  exact vx_runS (As := As) (rest := st) (nL := nL) (n := As.length) (Ts := mW) ⟨hx, hb, hml, hown, hts⟩ hM ⟨callB_of As.length hts (mGood w5) rfl rfl rfl (hts _ w4) (hts _ w1) hd hR, hts _ w2⟩ ⟨mBlindX, mPreXOf hK hbs hS hR1 hPx⟩ rfl rfl (by rw [← hml]; exact hl.1) hstk (lv_room hcat) d hroom
end MXX
theorem xg_A1 : ∀ w ∈ (vx_at0 RX5 232 xA xNm).filter goodWord, w ∈ mW := by decide +kernel
theorem xg_S1 : ∀ w ∈ (vx_at0 RX5 235 xS xNm).filter goodWord, w ∈ mW := by decide +kernel
theorem xg_I1 : ∀ w ∈ (vx_at0 RX5 238 xI xNm).filter goodWord, w ∈ mW := by decide +kernel
theorem xg_A2 : ∀ w ∈ (vx_at0 RX5 232 xA xNm).filter (fun w => !goodWord w), w ∈ mNestX := by decide +kernel
theorem xg_S2 : ∀ w ∈ (vx_at0 RX5 235 xS xNm).filter (fun w => !goodWord w), w ∈ mNestX := by decide +kernel
theorem xg_I2 : ∀ w ∈ (vx_at0 RX5 238 xI xNm).filter (fun w => !goodWord w), w ∈ mNestX := by decide +kernel
theorem xg_A3 : ∀ w ∈ Cond.classLink RX5 230 xA :: Cond.initialized xA :: vx_at0 RX5 232 xA xNm, vx_ot w = true := by decide +kernel
theorem xg_S3 : ∀ w ∈ Cond.classLink RX5 233 xS :: Cond.initialized xS :: vx_at0 RX5 235 xS xNm, vx_ot w = true := by decide +kernel
theorem xg_I3 : ∀ w ∈ Cond.classLink RX5 236 xI :: Cond.initialized xI :: vx_at0 RX5 238 xI xNm, vx_ot w = true := by decide +kernel
