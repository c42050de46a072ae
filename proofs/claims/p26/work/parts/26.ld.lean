def mFnL (κ : mKp) (y : MethodName) (cc : ByteArray) (nL : Nat) (ret : Option FieldType) (fr lo : Nat) (As : List Value) (n : Nat) (sh : mSh) (P : mPt) (D : mDt) (E : mEt) (post : Int64 → mDt → Prop) : Prop := mFn κ y cc nL ret fr lo As n sh P D E (fun v D' => ∃ r : Int64, v = some (.long r) ∧ post r D')
def mFnD (κ : mKp) (y : MethodName) (cc : ByteArray) (nL : Nat) (ret : Option FieldType) (fr lo : Nat) (As : List Value) (n : Nat) (sh : mSh) (P : mPt) (D : mDt) (E : mEt) (post : UInt64 → mDt → Prop) : Prop := mFn κ y cc nL ret fr lo As n sh P D E (fun v D' => ∃ r : UInt64, v = some (.double r) ∧ post r D')
section ML
variable {Γ : mC} {κ : mKp} {Q : State → Prop} {kc ks n : Nat} {sh : mSh} {P : mPt} {D : mDt} {E : mEt} {lv : List (Nat × Value)} {st : List Value} {pc : Nat} {own : String} {cc : ByteArray} {nL : Nat} {ret : Option FieldType} {R : Room} {post : mPost} {mc ms : Nat}
theorem V_iincW (h : mOk Γ κ own cc nL ret R) (pc' : Nat) (lv' : List (Nat × Value)) {i : Nat} {z : Int} {x v : Int32} (k0 : Nat) (hk : lv[k0]? = some (i, .int x)) (hv : x + Int32.ofInt z = v) (hi : i < nL) (he : (i, Value.int v) :: lv.filter (fun q => !(q.1 == i) && !(q.1 + 1 == i && q.2.category == 2)) = lv') (d : decode cc pc = .ok (.iinc i z, 6)) (hp : pc + 6 = pc') (k : mV Γ Q kc ks n sh P D E lv' st pc') : mV Γ Q kc ks n sh P D E lv (st) pc := by
  obtain ⟨⟨p, l, e, R0, s, m, args, below, meth, c⟩, G, Y, base⟩ := Γ
  obtain ⟨hx, hb, hml, hown, hts, hK, hlk, hrt, hR, hbs, hκ⟩ := h
  subst hp
  intro H locs ls hR1 hS hl
  exact lv_iincW hx hb d hl hk hv (by rw [hml]; exact hi) he (fun ls hl => k H locs ls hR1 hS hl)
theorem V_i2d (h : mOk Γ κ own cc nL ret R) (pc' : Nat) {x : Int32} (d : decode cc pc = .ok (.i2d, 1)) (hp : pc + 1 = pc') (k : mV Γ Q kc ks n sh P D E lv (.double (FP.i2d x) :: st) pc') : mV Γ Q kc ks n sh P D E lv (.int x :: st) pc := by
  obtain ⟨⟨p, l, e, R0, s, m, args, below, meth, c⟩, G, Y, base⟩ := Γ
  obtain ⟨hx, hb, hml, hown, hts, hK, hlk, hrt, hR, hbs, hκ⟩ := h
  subst hp
  intro H locs ls hR1 hS hl
  exact lv_i2d hx hb d (k H locs ls hR1 hS hl)
theorem V_ddiv (h : mOk Γ κ own cc nL ret R) (pc' : Nat) {x y : UInt64} (hn : vf_n64 (FP.ddiv x y)) (d : decode cc pc = .ok (.ddiv, 1)) (hp : pc + 1 = pc') (k : mV Γ Q kc ks n sh P D E lv (.double (FP.ddiv x y) :: st) pc') : mV Γ Q kc ks n sh P D E lv (.double y :: .double x :: st) pc := by
  obtain ⟨⟨p, l, e, R0, s, m, args, below, meth, c⟩, G, Y, base⟩ := Γ
  obtain ⟨hx, hb, hml, hown, hts, hK, hlk, hrt, hR, hbs, hκ⟩ := h
  subst hp
  intro H locs ls hR1 hS hl
  exact lv_ddiv hx hb d hn (k H locs ls hR1 hS hl)
theorem V_dconst0 (h : mOk Γ κ own cc nL ret R) (pc' : Nat) (d : decode cc pc = .ok (.dconst 0, 1)) (hp : pc + 1 = pc') (k : mV Γ Q kc ks n sh P D E lv (.double FP.dconst0 :: st) pc') : mV Γ Q kc ks n sh P D E lv st pc := by
  obtain ⟨⟨p, l, e, R0, s, m, args, below, meth, c⟩, G, Y, base⟩ := Γ
  obtain ⟨hx, hb, hml, hown, hts, hK, hlk, hrt, hR, hbs, hκ⟩ := h
  subst hp
  intro H locs ls hR1 hS hl
  exact lv_dconst0 hx hb d (k H locs ls hR1 hS hl)
theorem V_dret {ty : FieldType} (h : mOk Γ κ own cc nL (some ty) R) {v : UInt64} (hn : ty = .double) (hQ : Q = mEnd Γ post mc ms) (hc : kc ≤ mc) (hs : ks ≤ ms) (hpost : post (some (.double v)) n sh P D E) (d : decode cc pc = .ok (.dreturn, 1)) : mV Γ Q kc ks n sh P D E lv [.double v] pc := by
  obtain ⟨⟨p, l, e, R0, s, m, args, below, meth, c⟩, G, Y, base⟩ := Γ
  obtain ⟨hx, hb, hml, hown, hts, hK, hlk, hrt, hR, hbs, hκ⟩ := h
  subst hQ
  intro H locs ls hR1 hS hl
  refine W.widen hc hs ?_
  exact W.dret hx hb (by rw [hrt, hn]) (fun t ht hW => ⟨⟨_, _, _, _, _, _, rfl, hpost, by rw [ht]; exact hR1⟩, hS.F ht⟩) (fun q hq => hS.2.2 q hq) d hlk

theorem CVL (h : mOk Γ κ own cc nL ret R) (pc' : Nat) {y : MethodName} {cc2 : ByteArray} {nL2 : Nat} {ret2 : Option FieldType} {fr lo : Nat} {idx : Nat} {As stk : List Value} {ci b N : Nat} {T : u_T} {post : Int64 → mDt → Prop} (hM : mFnL κ y cc2 nL2 ret2 fr lo (.ref b :: As) n sh P D E post) (hC : vwCl[ci]? = some (y.cls, T, N)) (hs : sh b = some (.inl ci)) (w1 : Cond.methodLink own idx y ∈ mW) (w2 : Cond.instanceMethod y ∈ mW) (w3 : Cond.selects y.cls y y ∈ mW) (w4 : Cond.initialized y.cls ∈ mW) (w5 : Cond.code y cc2 nL2 ret2 ∈ mW) (hd : y.cls ≠ "java/lang/invoke/MethodHandle" ∧ y.cls ≠ "java/lang/invoke/VarHandle" ∧ (parseMethodDescriptor y.desc).map (fun d => d.parameters.length) = some As.length) (hR : fr + 1 ≤ R.frames ∧ 8 + (nL2 + 11) + lo ≤ R.locals) (hcat : (st.map fun v => v.category).sum ≤ 8) (hp : pc + 3 = pc') (hstk : stk = As.reverse ++ .ref b :: st) (d : decode cc pc = .ok (.invokevirtual idx, 3)) (hkc : kc ≤ R.cells) (hks : ks ≤ R.slots) (kk : ∀ (r : Int64) (D' : mDt), post r D' → mV Γ Q kc ks n sh P D' E lv (.long r :: st) pc') : mV Γ Q kc ks n sh P D E lv stk pc := by
  refine V_callV h pc' (rm := { frames := fr, cells := 0, slots := 0, locals := lo }) hM hC hs w1 w2 w3 w4 w5 hd hR hcat hp hstk d ⟨hkc, hks⟩ ?_
  · intro v n' sh' P' D' E' hq
    obtain ⟨rfl, rfl, rfl, rfl, r, rfl, hq⟩ := hq
    exact kk r D' hq
theorem CVD (h : mOk Γ κ own cc nL ret R) (pc' : Nat) {y : MethodName} {cc2 : ByteArray} {nL2 : Nat} {ret2 : Option FieldType} {fr lo : Nat} {idx : Nat} {As stk : List Value} {ci b N : Nat} {T : u_T} {post : UInt64 → mDt → Prop} (hM : mFnD κ y cc2 nL2 ret2 fr lo (.ref b :: As) n sh P D E post) (hC : vwCl[ci]? = some (y.cls, T, N)) (hs : sh b = some (.inl ci)) (w1 : Cond.methodLink own idx y ∈ mW) (w2 : Cond.instanceMethod y ∈ mW) (w3 : Cond.selects y.cls y y ∈ mW) (w4 : Cond.initialized y.cls ∈ mW) (w5 : Cond.code y cc2 nL2 ret2 ∈ mW) (hd : y.cls ≠ "java/lang/invoke/MethodHandle" ∧ y.cls ≠ "java/lang/invoke/VarHandle" ∧ (parseMethodDescriptor y.desc).map (fun d => d.parameters.length) = some As.length) (hR : fr + 1 ≤ R.frames ∧ 8 + (nL2 + 11) + lo ≤ R.locals) (hcat : (st.map fun v => v.category).sum ≤ 8) (hp : pc + 3 = pc') (hstk : stk = As.reverse ++ .ref b :: st) (d : decode cc pc = .ok (.invokevirtual idx, 3)) (hkc : kc ≤ R.cells) (hks : ks ≤ R.slots) (kk : ∀ (r : UInt64) (D' : mDt), post r D' → mV Γ Q kc ks n sh P D' E lv (.double r :: st) pc') : mV Γ Q kc ks n sh P D E lv stk pc := by
  refine V_callV h pc' (rm := { frames := fr, cells := 0, slots := 0, locals := lo }) hM hC hs w1 w2 w3 w4 w5 hd hR hcat hp hstk d ⟨hkc, hks⟩ ?_
  · intro v n' sh' P' D' E' hq
    obtain ⟨rfl, rfl, rfl, rfl, r, rfl, hq⟩ := hq
    exact kk r D' hq
end ML
/-- d goes on by f 0, f 1 .. f (k - 1), as the books are digested -/
def digM (f : Nat → Int32) (d : Int64) : Nat → Int64
  | 0 => d
  | k + 1 => digM f d k * 31 + (f k).toInt64
theorem fp_ok : ∀ a, a < 1000 → ∀ b, b < 11 → vf_n64 (FP.ddiv (FP.i2d (nI a)) (FP.i2d (nI (b + 1)))) := by
  unfold vf_n64
  decide +kernel
