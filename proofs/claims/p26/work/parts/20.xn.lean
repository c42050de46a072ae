def xPx (n : Nat) (sh : mSh) (P : mPt) (D : mDt) (E : mEt) (K : String → Prop) : mXP := fun X n' sh' P' D' E' => K X ∧ n ≤ n' ∧ sh' = sh ∧ P' = P ∧ D' = D ∧ E' = E
def mXn (κ : mKp) (y : MethodName) (cc : ByteArray) (nL : Nat) (ret : Option FieldType) (fr lo ce sl : Nat) (As : List Value) (n : Nat) (sh : mSh) (P : mPt) (D : mDt) (E : mEt) (post : Option Value → mDt → Prop) (K : String → Prop) : Prop := mXMet κ y cc nL ret { frames := fr, cells := ce, slots := sl, locals := lo } As n sh P D E (fun v n' sh' P' D' E' => n' = n ∧ sh' = sh ∧ P' = P ∧ E' = E ∧ post v D') (xPx n sh P D E K)
def mXnI (κ : mKp) (y : MethodName) (cc : ByteArray) (nL : Nat) (ret : Option FieldType) (fr lo ce sl : Nat) (As : List Value) (n : Nat) (sh : mSh) (P : mPt) (D : mDt) (E : mEt) (post : Int32 → mDt → Prop) (K : String → Prop) : Prop := mXn κ y cc nL ret fr lo ce sl As n sh P D E (fun v D' => ∃ r : Int32, v = some (.int r) ∧ post r D') K
def mXnL (κ : mKp) (y : MethodName) (cc : ByteArray) (nL : Nat) (ret : Option FieldType) (fr lo ce sl : Nat) (As : List Value) (n : Nat) (sh : mSh) (P : mPt) (D : mDt) (E : mEt) (post : Int64 → mDt → Prop) (K : String → Prop) : Prop := mXn κ y cc nL ret fr lo ce sl As n sh P D E (fun v D' => ∃ r : Int64, v = some (.long r) ∧ post r D') K
def mXnV (κ : mKp) (y : MethodName) (cc : ByteArray) (nL : Nat) (fr lo ce sl : Nat) (As : List Value) (n : Nat) (sh : mSh) (P : mPt) (D : mDt) (E : mEt) (post : mDt → Prop) (K : String → Prop) : Prop := mXn κ y cc nL none fr lo ce sl As n sh P D E (fun v D' => v = none ∧ post D') K
section MXN
variable {Γ : mC} {κ : mKp} {Q : State → Prop} {kc ks n : Nat} {sh : mSh} {P : mPt} {D D0 : mDt} {E : mEt} {lv : List (Nat × Value)} {st : List Value} {pc : Nat} {own : String} {cc : ByteArray} {nL : Nat} {ret : Option FieldType} {R : Room} {postQ : mPost} {K : String → Prop} {mc ms : Nat}

theorem XVI (h : mOk Γ κ own cc nL ret R) (hX : mOkX Γ) (hQ : Q = mEndX Γ postQ (xPx n sh P D0 E K) mc ms) (kc' ks' pc' : Nat) {y : MethodName} {cc2 : ByteArray} {nL2 : Nat} {ret2 : Option FieldType} {fr lo ce sl : Nat} {idx : Nat} {As stk : List Value} {ci b N : Nat} {T : u_T} {post : Int32 → mDt → Prop} {K1 : String → Prop} (hM : mXnI κ y cc2 nL2 ret2 fr lo ce sl (.ref b :: As) n sh P D E post K1) (hC : vwCl[ci]? = some (y.cls, T, N)) (hs : sh b = some (.inl ci)) (w1 : Cond.methodLink own idx y ∈ mW) (w2 : Cond.instanceMethod y ∈ mW) (w3 : Cond.selects y.cls y y ∈ mW) (w4 : Cond.initialized y.cls ∈ mW) (w5 : Cond.code y cc2 nL2 ret2 ∈ mW) (hd : y.cls ≠ "java/lang/invoke/MethodHandle" ∧ y.cls ≠ "java/lang/invoke/VarHandle" ∧ (parseMethodDescriptor y.desc).map (fun d => d.parameters.length) = some As.length) (hR : fr + 1 ≤ R.frames ∧ 8 + (nL2 + 11) + lo ≤ R.locals) (hcat : (st.map fun v => v.category).sum ≤ 8) (hp : pc + 3 = pc') (hstk : stk = As.reverse ++ .ref b :: st) (d : decode cc pc = .ok (.invokevirtual idx, 3)) (hroom : kc + ce ≤ R.cells ∧ ks + sl ≤ R.slots) (hmc : kc + ce ≤ mc ∧ ks + sl ≤ ms) (ekc : kc + ce = kc') (eks : ks + sl = ks') (hK : ∀ X, K1 X → K X ∧ D = D0) (kk : ∀ (r : Int32) (D' : mDt), post r D' → mV Γ Q kc' ks' n sh P D' E lv (.int r :: st) pc') : mV Γ Q kc ks n sh P D E lv stk pc := by
  subst ekc
  subst eks
  refine X_callV h hX hQ pc' (rm := { frames := fr, cells := ce, slots := sl, locals := lo }) hM hC hs w1 w2 w3 w4 w5 hd hR hcat hp hstk d hroom hmc.1 hmc.2 ?_ ?_
  · rintro X n' sh' P' D' E' ⟨h1, h2, rfl, rfl, rfl, rfl⟩
    obtain ⟨h3, rfl⟩ := hK X h1
    exact ⟨h3, h2, rfl, rfl, rfl, rfl⟩
  · intro v n' sh' P' D' E' hq
    obtain ⟨rfl, rfl, rfl, rfl, r, rfl, hq⟩ := hq
    exact kk r D' hq
theorem XVL (h : mOk Γ κ own cc nL ret R) (hX : mOkX Γ) (hQ : Q = mEndX Γ postQ (xPx n sh P D0 E K) mc ms) (kc' ks' pc' : Nat) {y : MethodName} {cc2 : ByteArray} {nL2 : Nat} {ret2 : Option FieldType} {fr lo ce sl : Nat} {idx : Nat} {As stk : List Value} {ci b N : Nat} {T : u_T} {post : Int64 → mDt → Prop} {K1 : String → Prop} (hM : mXnL κ y cc2 nL2 ret2 fr lo ce sl (.ref b :: As) n sh P D E post K1) (hC : vwCl[ci]? = some (y.cls, T, N)) (hs : sh b = some (.inl ci)) (w1 : Cond.methodLink own idx y ∈ mW) (w2 : Cond.instanceMethod y ∈ mW) (w3 : Cond.selects y.cls y y ∈ mW) (w4 : Cond.initialized y.cls ∈ mW) (w5 : Cond.code y cc2 nL2 ret2 ∈ mW) (hd : y.cls ≠ "java/lang/invoke/MethodHandle" ∧ y.cls ≠ "java/lang/invoke/VarHandle" ∧ (parseMethodDescriptor y.desc).map (fun d => d.parameters.length) = some As.length) (hR : fr + 1 ≤ R.frames ∧ 8 + (nL2 + 11) + lo ≤ R.locals) (hcat : (st.map fun v => v.category).sum ≤ 8) (hp : pc + 3 = pc') (hstk : stk = As.reverse ++ .ref b :: st) (d : decode cc pc = .ok (.invokevirtual idx, 3)) (hroom : kc + ce ≤ R.cells ∧ ks + sl ≤ R.slots) (hmc : kc + ce ≤ mc ∧ ks + sl ≤ ms) (ekc : kc + ce = kc') (eks : ks + sl = ks') (hK : ∀ X, K1 X → K X ∧ D = D0) (kk : ∀ (r : Int64) (D' : mDt), post r D' → mV Γ Q kc' ks' n sh P D' E lv (.long r :: st) pc') : mV Γ Q kc ks n sh P D E lv stk pc := by
  subst ekc
  subst eks
  refine X_callV h hX hQ pc' (rm := { frames := fr, cells := ce, slots := sl, locals := lo }) hM hC hs w1 w2 w3 w4 w5 hd hR hcat hp hstk d hroom hmc.1 hmc.2 ?_ ?_
  · rintro X n' sh' P' D' E' ⟨h1, h2, rfl, rfl, rfl, rfl⟩
    obtain ⟨h3, rfl⟩ := hK X h1
    exact ⟨h3, h2, rfl, rfl, rfl, rfl⟩
  · intro v n' sh' P' D' E' hq
    obtain ⟨rfl, rfl, rfl, rfl, r, rfl, hq⟩ := hq
    exact kk r D' hq
theorem XVV (h : mOk Γ κ own cc nL ret R) (hX : mOkX Γ) (hQ : Q = mEndX Γ postQ (xPx n sh P D0 E K) mc ms) (kc' ks' pc' : Nat) {y : MethodName} {cc2 : ByteArray} {nL2 : Nat} {fr lo ce sl : Nat} {idx : Nat} {As stk : List Value} {ci b N : Nat} {T : u_T} {post : mDt → Prop} {K1 : String → Prop} (hM : mXnV κ y cc2 nL2 fr lo ce sl (.ref b :: As) n sh P D E post K1) (hC : vwCl[ci]? = some (y.cls, T, N)) (hs : sh b = some (.inl ci)) (w1 : Cond.methodLink own idx y ∈ mW) (w2 : Cond.instanceMethod y ∈ mW) (w3 : Cond.selects y.cls y y ∈ mW) (w4 : Cond.initialized y.cls ∈ mW) (w5 : Cond.code y cc2 nL2 none ∈ mW) (hd : y.cls ≠ "java/lang/invoke/MethodHandle" ∧ y.cls ≠ "java/lang/invoke/VarHandle" ∧ (parseMethodDescriptor y.desc).map (fun d => d.parameters.length) = some As.length) (hR : fr + 1 ≤ R.frames ∧ 8 + (nL2 + 11) + lo ≤ R.locals) (hcat : (st.map fun v => v.category).sum ≤ 8) (hp : pc + 3 = pc') (hstk : stk = As.reverse ++ .ref b :: st) (d : decode cc pc = .ok (.invokevirtual idx, 3)) (hroom : kc + ce ≤ R.cells ∧ ks + sl ≤ R.slots) (hmc : kc + ce ≤ mc ∧ ks + sl ≤ ms) (ekc : kc + ce = kc') (eks : ks + sl = ks') (hK : ∀ X, K1 X → K X ∧ D = D0) (kk : ∀ (D' : mDt), post D' → mV Γ Q kc' ks' n sh P D' E lv (st) pc') : mV Γ Q kc ks n sh P D E lv stk pc := by
  subst ekc
  subst eks
  refine X_callV h hX hQ pc' (rm := { frames := fr, cells := ce, slots := sl, locals := lo }) hM hC hs w1 w2 w3 w4 w5 hd hR hcat hp hstk d hroom hmc.1 hmc.2 ?_ ?_
  · rintro X n' sh' P' D' E' ⟨h1, h2, rfl, rfl, rfl, rfl⟩
    obtain ⟨h3, rfl⟩ := hK X h1
    exact ⟨h3, h2, rfl, rfl, rfl, rfl⟩
  · intro v n' sh' P' D' E' hq
    obtain ⟨rfl, rfl, rfl, rfl, rfl, hq⟩ := hq
    exact kk D' hq
theorem XSI (h : mOk Γ κ own cc nL ret R) (hX : mOkX Γ) (hQ : Q = mEndX Γ postQ (xPx n sh P D0 E K) mc ms) (kc' ks' pc' : Nat) {y : MethodName} {cc2 : ByteArray} {nL2 : Nat} {ret2 : Option FieldType} {fr lo ce sl : Nat} {idx : Nat} {As stk : List Value} {post : Int32 → mDt → Prop} {K1 : String → Prop} (hM : mXnI κ y cc2 nL2 ret2 fr lo ce sl As n sh P D E post K1) (w1 : Cond.methodLink own idx y ∈ mW) (w2 : Cond.static y ∈ mW) (w4 : Cond.initialized y.cls ∈ mW) (w5 : Cond.code y cc2 nL2 ret2 ∈ mW) (hd : y.cls ≠ "java/lang/invoke/MethodHandle" ∧ y.cls ≠ "java/lang/invoke/VarHandle" ∧ (parseMethodDescriptor y.desc).map (fun d => d.parameters.length) = some As.length) (hR : fr + 1 ≤ R.frames ∧ 8 + (nL2 + 11) + lo ≤ R.locals) (hcat : (st.map fun v => v.category).sum ≤ 8) (hp : pc + 3 = pc') (hstk : stk = As.reverse ++ st) (d : decode cc pc = .ok (.invokestatic idx, 3)) (hroom : kc + ce ≤ R.cells ∧ ks + sl ≤ R.slots) (hmc : kc + ce ≤ mc ∧ ks + sl ≤ ms) (ekc : kc + ce = kc') (eks : ks + sl = ks') (hK : ∀ X, K1 X → K X ∧ D = D0) (kk : ∀ (r : Int32) (D' : mDt), post r D' → mV Γ Q kc' ks' n sh P D' E lv (.int r :: st) pc') : mV Γ Q kc ks n sh P D E lv stk pc := by
  subst ekc
  subst eks
  refine X_callS h hX hQ pc' (rm := { frames := fr, cells := ce, slots := sl, locals := lo }) hM w1 w2 w4 w5 hd hR hcat hp hstk d hroom hmc.1 hmc.2 ?_ ?_
  · rintro X n' sh' P' D' E' ⟨h1, h2, rfl, rfl, rfl, rfl⟩
    obtain ⟨h3, rfl⟩ := hK X h1
    exact ⟨h3, h2, rfl, rfl, rfl, rfl⟩
  · intro v n' sh' P' D' E' hq
    obtain ⟨rfl, rfl, rfl, rfl, r, rfl, hq⟩ := hq
    exact kk r D' hq
theorem XSL (h : mOk Γ κ own cc nL ret R) (hX : mOkX Γ) (hQ : Q = mEndX Γ postQ (xPx n sh P D0 E K) mc ms) (kc' ks' pc' : Nat) {y : MethodName} {cc2 : ByteArray} {nL2 : Nat} {ret2 : Option FieldType} {fr lo ce sl : Nat} {idx : Nat} {As stk : List Value} {post : Int64 → mDt → Prop} {K1 : String → Prop} (hM : mXnL κ y cc2 nL2 ret2 fr lo ce sl As n sh P D E post K1) (w1 : Cond.methodLink own idx y ∈ mW) (w2 : Cond.static y ∈ mW) (w4 : Cond.initialized y.cls ∈ mW) (w5 : Cond.code y cc2 nL2 ret2 ∈ mW) (hd : y.cls ≠ "java/lang/invoke/MethodHandle" ∧ y.cls ≠ "java/lang/invoke/VarHandle" ∧ (parseMethodDescriptor y.desc).map (fun d => d.parameters.length) = some As.length) (hR : fr + 1 ≤ R.frames ∧ 8 + (nL2 + 11) + lo ≤ R.locals) (hcat : (st.map fun v => v.category).sum ≤ 8) (hp : pc + 3 = pc') (hstk : stk = As.reverse ++ st) (d : decode cc pc = .ok (.invokestatic idx, 3)) (hroom : kc + ce ≤ R.cells ∧ ks + sl ≤ R.slots) (hmc : kc + ce ≤ mc ∧ ks + sl ≤ ms) (ekc : kc + ce = kc') (eks : ks + sl = ks') (hK : ∀ X, K1 X → K X ∧ D = D0) (kk : ∀ (r : Int64) (D' : mDt), post r D' → mV Γ Q kc' ks' n sh P D' E lv (.long r :: st) pc') : mV Γ Q kc ks n sh P D E lv stk pc := by
  subst ekc
  subst eks
  refine X_callS h hX hQ pc' (rm := { frames := fr, cells := ce, slots := sl, locals := lo }) hM w1 w2 w4 w5 hd hR hcat hp hstk d hroom hmc.1 hmc.2 ?_ ?_
  · rintro X n' sh' P' D' E' ⟨h1, h2, rfl, rfl, rfl, rfl⟩
    obtain ⟨h3, rfl⟩ := hK X h1
    exact ⟨h3, h2, rfl, rfl, rfl, rfl⟩
  · intro v n' sh' P' D' E' hq
    obtain ⟨rfl, rfl, rfl, rfl, r, rfl, hq⟩ := hq
    exact kk r D' hq
theorem XSV (h : mOk Γ κ own cc nL ret R) (hX : mOkX Γ) (hQ : Q = mEndX Γ postQ (xPx n sh P D0 E K) mc ms) (kc' ks' pc' : Nat) {y : MethodName} {cc2 : ByteArray} {nL2 : Nat} {fr lo ce sl : Nat} {idx : Nat} {As stk : List Value} {post : mDt → Prop} {K1 : String → Prop} (hM : mXnV κ y cc2 nL2 fr lo ce sl As n sh P D E post K1) (w1 : Cond.methodLink own idx y ∈ mW) (w2 : Cond.static y ∈ mW) (w4 : Cond.initialized y.cls ∈ mW) (w5 : Cond.code y cc2 nL2 none ∈ mW) (hd : y.cls ≠ "java/lang/invoke/MethodHandle" ∧ y.cls ≠ "java/lang/invoke/VarHandle" ∧ (parseMethodDescriptor y.desc).map (fun d => d.parameters.length) = some As.length) (hR : fr + 1 ≤ R.frames ∧ 8 + (nL2 + 11) + lo ≤ R.locals) (hcat : (st.map fun v => v.category).sum ≤ 8) (hp : pc + 3 = pc') (hstk : stk = As.reverse ++ st) (d : decode cc pc = .ok (.invokestatic idx, 3)) (hroom : kc + ce ≤ R.cells ∧ ks + sl ≤ R.slots) (hmc : kc + ce ≤ mc ∧ ks + sl ≤ ms) (ekc : kc + ce = kc') (eks : ks + sl = ks') (hK : ∀ X, K1 X → K X ∧ D = D0) (kk : ∀ (D' : mDt), post D' → mV Γ Q kc' ks' n sh P D' E lv (st) pc') : mV Γ Q kc ks n sh P D E lv stk pc := by
  subst ekc
  subst eks
  refine X_callS h hX hQ pc' (rm := { frames := fr, cells := ce, slots := sl, locals := lo }) hM w1 w2 w4 w5 hd hR hcat hp hstk d hroom hmc.1 hmc.2 ?_ ?_
  · rintro X n' sh' P' D' E' ⟨h1, h2, rfl, rfl, rfl, rfl⟩
    obtain ⟨h3, rfl⟩ := hK X h1
    exact ⟨h3, h2, rfl, rfl, rfl, rfl⟩
  · intro v n' sh' P' D' E' hq
    obtain ⟨rfl, rfl, rfl, rfl, rfl, hq⟩ := hq
    exact kk D' hq
end MXN
/-- v lies between two numbers -/
def wI (v a b : Int32) : Int32 := if v < a then 0 else if b < v then 0 else 1
def wP (v a b : Int32) : Prop := a ≤ v ∧ v ≤ b
theorem wI_1 {v a b : Int32} (h : ¬ wI v a b = 0) : wP v a b := by
  unfold wI at h
  split at h
  · exact absurd rfl h
  · rename_i h1
    split at h
    · exact absurd rfl h
    · rename_i h2
      exact ⟨Int32.not_lt.mp h1, Int32.not_lt.mp h2⟩
theorem wI_0 {v a b : Int32} (h : wI v a b = 0) : ¬ wP v a b := by
  rintro ⟨h1, h2⟩
  unfold wI at h
  rw [if_neg (Int32.not_lt.mpr h1), if_neg (Int32.not_lt.mpr h2)] at h
  exact absurd h (by decide)
/-- the object at b with its three blocks -/
def bLay (b o o2 o3 : Nat) (sh : mSh) (P : mPt) : Prop := sh b = some (.inl 5) ∧ P b 0 = some o ∧ P b 1 = some o2 ∧ P b 2 = some o3 ∧ mLay o sh P ∧ mLay o2 sh P ∧ mLay o3 sh P ∧ o + 20 ≤ o2 ∧ o2 + 20 ≤ o3
/-- all that the class keeps of its oasis -/
def cI (o L e : Nat) (ρ : Nat → Nat) (m k : Nat) (D : mDt) : Prop := cW o L ρ m k D ∧ D (o + 2) 3 = nI e ∧ L ≤ e ∧ e ≤ 10 ∧ (∀ p q, p < q → q < L → ρ p ≠ ρ q) ∧ (∀ p, p < L → ρ p < e) ∧ (∀ i, i < 10 → (D (o + 6 + i) 1 = 1 ∧ ∃ p, p < L ∧ ρ p = i) ∨ (D (o + 6 + i) 1 = 0 ∧ ∀ p, p < L → ρ p ≠ i)) ∧ D (o + 5) 1 = 0
theorem cI_lv {o L e : Nat} {ρ : Nat → Nat} {m k : Nat} {D : mDt} (h : cI o L e ρ m k D) : ∀ i, i < 10 → D (o + 6 + i) 1 = 0 ∨ D (o + 6 + i) 1 = 1 := fun i hi => by
  rcases h.2.2.2.2.2.2.1 i hi with h1 | h1
  · exact Or.inr h1.1
  · exact Or.inl h1.1
/-- x is the number of one who lives -/
def livP (L : Nat) (ρ : Nat → Nat) (x : Int32) : Prop := ∃ q, q < L ∧ x = nI (ρ q)
theorem numb_cases (o : Nat) (x : Int32) : (numb o x = o + 5 ∧ ∀ i, i < 10 → x ≠ nI i) ∨ ∃ i, i < 10 ∧ x = nI i ∧ numb o x = o + 6 + i := by
  by_cases h : 0 ≤ x ∧ x < 10
  · refine Or.inr ?_
    obtain ⟨j, hj, rfl⟩ := nI_of (x := x) (Int32.not_lt.mpr h.1)
    have h3 : j < 10 := (nI_ltI (b := 10) hj (by decide)).mp h.2
    exact ⟨j, h3, rfl, numb_nI h3⟩
  · refine Or.inl ⟨by unfold numb; rw [if_neg h], ?_⟩
    rintro i hi rfl
    exact h ⟨nI_pos' (by omega), nI_lt (a := i) (b := 10) hi (by decide)⟩
theorem cI_numb {o L e : Nat} {ρ : Nat → Nat} {m k : Nat} {D : mDt} (h : cI o L e ρ m k D) (x : Int32) : (D (numb o x) 1 = 1 ∧ livP L ρ x) ∨ (D (numb o x) 1 = 0 ∧ ¬ livP L ρ x) := by
  rcases numb_cases o x with ⟨h1, h2⟩ | ⟨i, hi, rfl, h1⟩
  · refine Or.inr ⟨by rw [h1]; exact h.2.2.2.2.2.2.2, ?_⟩
    rintro ⟨q, hq, e1⟩
    exact h2 (ρ q) (h.1.1.2.2 q hq).1 e1
  · rw [h1]
    rcases h.2.2.2.2.2.2.1 i hi with ⟨h2, p, hp, e1⟩ | ⟨h2, h3⟩
    · exact Or.inl ⟨h2, p, hp, by rw [e1]⟩
    · refine Or.inr ⟨h2, ?_⟩
      rintro ⟨q, hq, e1⟩
      have hq10 := (h.1.1.2.2 q hq).1
      exact h3 q hq ((nI_eq (by omega) (by omega)).mp e1).symm
theorem cI_hz {o L e : Nat} {ρ : Nat → Nat} {m k : Nat} {D : mDt} (h : cI o L e ρ m k D) (x : Int32) : D (numb o x) 1 = 0 ∨ D (numb o x) 1 = 1 := by
  rcases cI_numb h x with h1 | h1
  · exact Or.inr h1.1
  · exact Or.inl h1.1
theorem liv_num {o L e : Nat} {ρ : Nat → Nat} {m k : Nat} {D : mDt} (h : cI o L e ρ m k D) {q : Nat} (hq : q < L) : numb o (nI (ρ q)) = o + 6 + ρ q := numb_nI (h.1.1.2.2 q hq).1
