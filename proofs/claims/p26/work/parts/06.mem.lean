/-! the memory: sh a = what stands at the address a (an object of a class of vwCl, or an array of a kind and a length), P its references, D its ints, E its longs -/
abbrev mX : Type := Nat ⊕ (Nat × Nat)
abbrev mSh : Type := Nat → Option mX
abbrev mPt : Type := Nat → Nat → Option Nat
abbrev mDt : Type := Nat → Nat → Int32
abbrev mEt : Type := Nat → Nat → Int64
def mN (ci : Nat) : Nat := [4, 2, 8, 15, 5, 3, 18].getD ci 0
def mrk (ci k : Nat) : Bool := if ci = 6 then [true, true, false, true, false, true, true, true, true, true].getD k false else decide (k < [0, 1, 4, 0, 3, 3].getD ci 0)
def mfl (ci : Nat) (p : Nat → Option Nat) (d : Nat → Int32) : List Value := (List.range (mN ci)).map fun k => if mrk ci k = true then va_rf (p k) else .int (d k)
def mcell (Y : Nat → ClassId) (x : mX) (p : Nat → Option Nat) (d : Nat → Int32) (q : Nat → Int64) : va_E := match x with
  | .inl ci => .inr (ci, mfl ci p d)
  | .inr (0, len) => .inl (Y 0, len, .inl d)
  | .inr (t, len) => .inl (Y t, len, .inr (.inr (.inr (.inr p))))
def upd2 (D : mDt) (a k : Nat) (x : Int32) : mDt := fun b j => if b = a ∧ j = k then x else D b j
def updP (P : mPt) (a k : Nat) (x : Option Nat) : mPt := fun b j => if b = a ∧ j = k then x else P b j
def updE (E : mEt) (a k : Nat) (x : Int64) : mEt := fun b j => if b = a ∧ j = k then x else E b j
def updS (sh : mSh) (a : Nat) (x : mX) : mSh := fun b => if b = a then some x else sh b
def mR (G : va_G) (Y : Nat → ClassId) (base n : Nat) (sh : mSh) (P : mPt) (D : mDt) (E : mEt) (H : Heap) : Prop :=
  H.size = n ∧ ∀ (a : Nat) (x : mX), sh a = some x → base ≤ a ∧ va_at G vwCl (a, mcell Y x (P a) (D a) (E a)) H
def mtys (Y : Nat → ClassId) : List (ClassId × FieldType) := [(Y 0, .int), (Y 1, .object RX3), (Y 2, .array .int)]
/-- the tables, as a state knows them -/
def mAO2 (U : State) : Prop := (Cond.arrayOver (.array .int)).before #[] U = true
theorem mAO2_spec {U : State} (h : mAO2 U) : ∃ comp c k, U.vm.findClass (FieldType.array .int).toString = some comp ∧ (U.vm.classes.findIdx? fun (x : Class) => match x.kind with | .array component _ => component == comp | _ => false) = some c ∧ U.vm.classes[c]? = some k ∧ k.kind = .array comp (.array .int) ∧ U.vm.findClass ("[" ++ (FieldType.array .int).toString) = some c := by
  unfold mAO2 Cond.before Cond.holds at h
  simp only [Cond.value, beq_iff_eq] at h
  cases hc : U.vm.findClass (FieldType.array .int).toString with
  | none => simp [hc] at h
  | some comp =>
    simp only [hc, Option.bind_some, Option.bind_eq_some_iff, Option.map_eq_some_iff] at h
    obtain ⟨c, hi, k, hk, hb⟩ := h
    obtain ⟨hlt, hp, -⟩ := Array.findIdx?_eq_some_iff_getElem.mp hi
    have hkk : U.vm.classes[c] = k := (Array.getElem?_eq_some_iff.mp hk).2
    rw [hkk] at hp
    cases hkind : k.kind with
    | array component ty =>
      rw [hkind] at hb hp
      simp at hb hp
      exact ⟨comp, c, k, rfl, hi, hk, by rw [hkind, hp, hb.1], hb.2⟩
    | _ => rw [hkind] at hb; simp at hb
theorem mAO2_moved {u U : State} (hvm : u.vm.Alike U.vm) (h : mAO2 u) : mAO2 U := by
  obtain ⟨comp, c, k, h1, h2, h3, h4, h5⟩ := mAO2_spec h
  obtain ⟨k', hk', he⟩ := hvm.2.2 _ _ h3
  have hi : (U.vm.classes.findIdx? fun (x : Class) => match x.kind with | .array component _ => component == comp | _ => false) = some c := by
    have e1 := va_idx_bare U.vm comp
    have e2 := va_idx_bare u.vm comp
    have e3 : U.vm.bare = u.vm.bare := by first | exact hvm.bare_eq | exact hvm.bare_eq.symm
    rw [e3] at e1
    exact e1.symm.trans (e2.trans h2)
  have hkind : k'.kind = .array comp (.array .int) := by rw [he]; exact h4
  have f1 : U.vm.findClass (FieldType.array .int).toString = some comp := by rw [hvm.findClass]; exact h1
  have f2 : U.vm.findClass ("[" ++ (FieldType.array .int).toString) = some c := by rw [hvm.findClass]; exact h5
  unfold mAO2 Cond.before Cond.holds
  simp only [Cond.value]
  rw [f1, Option.bind_some]
  refine (congrArg (fun o : Option Nat => (o.bind (fun c => (U.vm.classes[c]?).map fun (k : Class) => match k.kind with | .array _ ty => decide (ty = FieldType.array .int) && decide (U.vm.findClass ("[" ++ (FieldType.array .int).toString) = some c) | _ => false) == some true)) hi).trans ?_
  simp [hk', hkind, f2]
def mKx (G : va_G) (Y : Nat → ClassId) (U : State) : Prop := va_K G vwCl (mtys Y) U ∧ (∀ w ∈ mNest, va_Nw w U) ∧ va_AO RX3 U ∧ mAO2 U
abbrev mKp : Type := Launch × va_G × (Nat → ClassId) × Nat
abbrev mC : Type := (Program × Launch × Env × Room × State × MethodId × Array Value × List Frame × Method × Code) × (va_G × (Nat → ClassId) × Nat)
def mOk (Γ : mC) (κ : mKp) (own : String) (cc : ByteArray) (nL : Nat) (ret : Option FieldType) (R' : Room) : Prop := match Γ with
  | ((p, l, e, R, s, m, args, below, meth, c), (G, Y, base)) => p.tables.exec = Jvm.exec ∧ c.code = cc ∧ c.maxLocals = nL ∧ s.vm.findClass own = some m.cls ∧ (∀ w ∈ mW, w.before args s = true) ∧ mKx G Y s ∧ meth.locks = false ∧ meth.sig.returnType = ret ∧ R = R' ∧ base ≤ s.heap.size ∧ (l, G, Y, base) = κ
def mV (Γ : mC) (Q : State → Prop) (kc ks n : Nat) (sh : mSh) (P : mPt) (D : mDt) (E : mEt) (lv : List (Nat × Value)) (st : List Value) (pc : Nat) : Prop := match Γ with
  | ((p, l, e, R, s, m, args, below, meth, c), (G, Y, base)) => ∀ (H : Heap) (locs : List Loc) (ls : Array Slot), mR G Y base n sh P D E H → va_S (fun q => base ≤ q) s.heap H locs → lv_has ls c.maxLocals lv → W p l e R s m args below meth c H locs kc ks Q (F0 m pc ls st)
theorem upd2_eq {D : mDt} {a k : Nat} {x : Int32} : upd2 D a k x a k = x := by simp [upd2]
theorem upd2_na {D : mDt} {a k b j : Nat} {x : Int32} (h : b ≠ a) : upd2 D a k x b j = D b j := by simp [upd2, h]
theorem upd2_nk {D : mDt} {a k b j : Nat} {x : Int32} (h : j ≠ k) : upd2 D a k x b j = D b j := by simp [upd2, h]
theorem upd2_ra {D : mDt} {a k b : Nat} {x : Int32} (h : b ≠ a) : upd2 D a k x b = D b := by funext j; simp [upd2, h]
theorem upd2_row {D : mDt} {a k : Nat} {x : Int32} : upd2 D a k x a = upd (D a) k x := by funext j; simp [upd2, upd]
theorem updP_row {P : mPt} {a k : Nat} {x : Option Nat} : updP P a k x a = va_up (P a) k x := by funext j; simp [updP, va_up]
theorem updP_ra {P : mPt} {a k b : Nat} {x : Option Nat} (h : b ≠ a) : updP P a k x b = P b := by funext j; simp [updP, h]
theorem updE_ra {E : mEt} {a k b : Nat} {x : Int64} (h : b ≠ a) : updE E a k x b = E b := by funext j; simp [updE, h]
theorem updE_row {E : mEt} {a k : Nat} {x : Int64} : updE E a k x a = vp_updL (E a) k x := by funext j; simp [updE, vp_updL]
theorem mfl_len (ci : Nat) (p : Nat → Option Nat) (d : Nat → Int32) : (mfl ci p d).length = mN ci := by simp [mfl]
theorem mfl_get {ci k : Nat} {p : Nat → Option Nat} {d : Nat → Int32} (hk : k < mN ci) : (mfl ci p d)[k]? = some (if mrk ci k = true then va_rf (p k) else .int (d k)) := by simp [mfl, hk]
theorem mfl_geti {ci k : Nat} {p : Nat → Option Nat} {d : Nat → Int32} (hk : k < mN ci) (hr : mrk ci k = false) : (mfl ci p d)[k]? = some (.int (d k)) := by rw [mfl_get hk, hr]; rfl
theorem mfl_getr {ci k b : Nat} {p : Nat → Option Nat} {d : Nat → Int32} (hk : k < mN ci) (hr : mrk ci k = true) (hb : p k = some b) : (mfl ci p d)[k]? = some (.ref b) := by rw [mfl_get hk, hr, hb]; rfl
theorem mfl_seti {ci k : Nat} {p : Nat → Option Nat} {d : Nat → Int32} {x : Int32} (hr : mrk ci k = false) : (mfl ci p d).set k (.int x) = mfl ci p (upd d k x) := by
  apply List.ext_getElem?
  intro j
  rw [List.getElem?_set]
  by_cases hj : k = j
  · subst hj
    by_cases hl : k < mN ci
    · rw [if_pos rfl, if_pos (by rw [mfl_len]; exact hl), mfl_geti hl hr]; simp [upd]
    · rw [if_pos rfl, if_neg (by rw [mfl_len]; exact hl), List.getElem?_eq_none (by rw [mfl_len]; omega)]
  · rw [if_neg hj]
    by_cases hl : j < mN ci
    · rw [mfl_get hl, mfl_get hl]; simp [upd, Ne.symm hj]
    · rw [List.getElem?_eq_none (by rw [mfl_len]; omega), List.getElem?_eq_none (by rw [mfl_len]; omega)]
theorem mfl_setr {ci k : Nat} {p : Nat → Option Nat} {d : Nat → Int32} {x : Option Nat} (hr : mrk ci k = true) : (mfl ci p d).set k (va_rf x) = mfl ci (va_up p k x) d := by
  apply List.ext_getElem?
  intro j
  rw [List.getElem?_set]
  by_cases hj : k = j
  · subst hj
    by_cases hl : k < mN ci
    · rw [if_pos rfl, if_pos (by rw [mfl_len]; exact hl), mfl_get hl, hr]; simp [va_up]
    · rw [if_pos rfl, if_neg (by rw [mfl_len]; exact hl), List.getElem?_eq_none (by rw [mfl_len]; omega)]
  · rw [if_neg hj]
    by_cases hl : j < mN ci
    · rw [mfl_get hl, mfl_get hl]; simp [va_up, Ne.symm hj]
    · rw [List.getElem?_eq_none (by rw [mfl_len]; omega), List.getElem?_eq_none (by rw [mfl_len]; omega)]
theorem mR_one {G : va_G} {Y : Nat → ClassId} {base n : Nat} {sh : mSh} {P : mPt} {D : mDt} {E : mEt} {H : Heap} (h : mR G Y base n sh P D E H) {a : Nat} {x : mX} (hs : sh a = some x) : va_P G vwCl [(a, mcell Y x (P a) (D a) (E a))] H := by
  intro k q hk
  match k, hk with
  | 0, hk => cases hk; exact (h.2 a x hs).2
  | k + 1, hk => simp at hk
theorem mD_one {A : Nat → Prop} {a : Nat} {e : va_E} (h : A a) : va_D A [(a, e)] := by
  refine ⟨fun i j p q hi hj _ => ?_, fun k q hk => ?_⟩
  · have h1 : i < 1 := (List.getElem?_eq_some_iff.mp hi).1
    have h2 : j < 1 := (List.getElem?_eq_some_iff.mp hj).1
    omega
  · match k, hk with
    | 0, hk => cases hk; exact h
    | k + 1, hk => simp at hk
/-- one cell is written -/
theorem mR_set {G : va_G} {Y : Nat → ClassId} {base n : Nat} {sh : mSh} {P P' : mPt} {D D' : mDt} {E E' : mEt} {H H1 : Heap} (h : mR G Y base n sh P D E H) {a : Nat} {x : mX} (hs : sh a = some x) (hz : H1.size = H.size) (hat : va_at G vwCl (a, mcell Y x (P' a) (D' a) (E' a)) H1) (oq : ∀ q : Nat, q ≠ a → H1[q]? = H[q]?)
    (hP : ∀ b, b ≠ a → P' b = P b) (hD : ∀ b, b ≠ a → D' b = D b) (hE : ∀ b, b ≠ a → E' b = E b) : mR G Y base n sh P' D' E' H1 := by
  refine ⟨hz.trans h.1, fun b y hb => ?_⟩
  by_cases e : b = a
  · subst e
    rw [hs] at hb
    cases hb
    exact ⟨(h.2 b x hs).1, hat⟩
  · obtain ⟨h1, h2⟩ := h.2 b y hb
    refine ⟨h1, ?_⟩
    rw [hP b e, hD b e, hE b e]
    exact h2.kept (oq b e)
/-- one cell is made -/
theorem mR_new {G : va_G} {Y : Nat → ClassId} {base n : Nat} {sh : mSh} {P P' : mPt} {D D' : mDt} {E E' : mEt} {H H1 : Heap} (h : mR G Y base n sh P D E H) {x : mX} (hb : base ≤ n) (hz : H1.size = n + 1) (hat : va_at G vwCl (n, mcell Y x (P' n) (D' n) (E' n)) H1) (oq : ∀ q : Nat, q < n → H1[q]? = H[q]?)
    (hP : ∀ b, b ≠ n → P' b = P b) (hD : ∀ b, b ≠ n → D' b = D b) (hE : ∀ b, b ≠ n → E' b = E b) : mR G Y base (n + 1) (updS sh n x) P' D' E' H1 := by
  refine ⟨hz, fun b y hy => ?_⟩
  unfold updS at hy
  by_cases e : b = n
  · subst e
    rw [if_pos rfl] at hy
    cases hy
    exact ⟨hb, hat⟩
  · rw [if_neg e] at hy
    obtain ⟨h1, h2⟩ := h.2 b y hy
    refine ⟨h1, ?_⟩
    rw [hP b e, hD b e, hE b e]
    exact h2.kept (oq b (by have := h2.lt; rw [h.1] at this; exact this))
/-- what is said of no cell is left out -/
theorem mR_less {G : va_G} {Y : Nat → ClassId} {base n : Nat} {sh sh' : mSh} {P : mPt} {D : mDt} {E : mEt} {H : Heap} (h : mR G Y base n sh P D E H) (hs : ∀ a x, sh' a = some x → sh a = some x) : mR G Y base n sh' P D E H := ⟨h.1, fun a x hx => h.2 a x (hs a x hx)⟩
theorem mR_lt {G : va_G} {Y : Nat → ClassId} {base n : Nat} {sh : mSh} {P : mPt} {D : mDt} {E : mEt} {H : Heap} (h : mR G Y base n sh P D E H) {a : Nat} {x : mX} (hs : sh a = some x) : a < n := by
  have := (h.2 a x hs).2.lt
  rw [h.1] at this
  exact this
/-- memories that hold the same where something is said -/
theorem mR_same {G : va_G} {Y : Nat → ClassId} {base n : Nat} {sh : mSh} {P P' : mPt} {D D' : mDt} {E E' : mEt} {H : Heap} (h : mR G Y base n sh P D E H) (hP : ∀ a x, sh a = some x → P' a = P a) (hD : ∀ a x, sh a = some x → D' a = D a) (hE : ∀ a x, sh a = some x → E' a = E a) : mR G Y base n sh P' D' E' H := by
  refine ⟨h.1, fun a x hx => ?_⟩
  rw [hP a x hx, hD a x hx, hE a x hx]
  exact h.2 a x hx
def imax (x y : Int32) : Int32 := if x < y then y else x
def imin (x y : Int32) : Int32 := if y < x then y else x
section MV
variable {Γ : mC} {κ : mKp} {Q : State → Prop} {kc ks n : Nat} {sh : mSh} {P : mPt} {D : mDt} {E : mEt} {lv : List (Nat × Value)} {st : List Value} {pc : Nat} {own : String} {cc : ByteArray} {nL : Nat} {ret : Option FieldType} {R : Room}
theorem V_iconst (h : mOk Γ κ own cc nL ret R) (pc' : Nat) {z : Int} {v : Int32} (hv : Int32.ofInt z = v) (d : decode cc pc = .ok (.iconst z, 1)) (hp : pc + 1 = pc') (k : mV Γ Q kc ks n sh P D E lv (.int v :: st) pc') : mV Γ Q kc ks n sh P D E lv (st) pc := by
  obtain ⟨⟨p, l, e, R0, s, m, args, below, meth, c⟩, G, Y, base⟩ := Γ
  obtain ⟨hx, hb, hml, hown, hts, hK, hlk, hrt, hR, hbs, -⟩ := h
  subst hp
  intro H locs ls hR1 hS hl
  exact lv_iconst hx hb d hv (k H locs ls hR1 hS hl)
theorem V_bipush (h : mOk Γ κ own cc nL ret R) (pc' : Nat) {z : Int} {v : Int32} (hv : (Int8.ofInt z).toInt32 = v) (d : decode cc pc = .ok (.bipush z, 2)) (hp : pc + 2 = pc') (k : mV Γ Q kc ks n sh P D E lv (.int v :: st) pc') : mV Γ Q kc ks n sh P D E lv (st) pc := by
  obtain ⟨⟨p, l, e, R0, s, m, args, below, meth, c⟩, G, Y, base⟩ := Γ
  obtain ⟨hx, hb, hml, hown, hts, hK, hlk, hrt, hR, hbs, -⟩ := h
  subst hp
  intro H locs ls hR1 hS hl
  exact lv_bipush hx hb d hv (k H locs ls hR1 hS hl)
theorem V_sipush (h : mOk Γ κ own cc nL ret R) (pc' : Nat) {z : Int} {v : Int32} (hv : (Int16.ofInt z).toInt32 = v) (d : decode cc pc = .ok (.sipush z, 3)) (hp : pc + 3 = pc') (k : mV Γ Q kc ks n sh P D E lv (.int v :: st) pc') : mV Γ Q kc ks n sh P D E lv (st) pc := by
  obtain ⟨⟨p, l, e, R0, s, m, args, below, meth, c⟩, G, Y, base⟩ := Γ
  obtain ⟨hx, hb, hml, hown, hts, hK, hlk, hrt, hR, hbs, -⟩ := h
  subst hp
  intro H locs ls hR1 hS hl
  exact lv_sipush hx hb d hv (k H locs ls hR1 hS hl)
theorem V_iload (h : mOk Γ κ own cc nL ret R) (pc' : Nat) {i : Nat} {x : Int32} (k0 : Nat) (hk : lv[k0]? = some (i, .int x)) (d : decode cc pc = .ok (.iload i, 2)) (hp : pc + 2 = pc') (k : mV Γ Q kc ks n sh P D E lv (.int x :: st) pc') : mV Γ Q kc ks n sh P D E lv (st) pc := by
  obtain ⟨⟨p, l, e, R0, s, m, args, below, meth, c⟩, G, Y, base⟩ := Γ
  obtain ⟨hx, hb, hml, hown, hts, hK, hlk, hrt, hR, hbs, -⟩ := h
  subst hp
  intro H locs ls hR1 hS hl
  exact lv_iload hx hb d (lv_at hl k0 hk) (k H locs ls hR1 hS hl)
theorem V_iload_n (h : mOk Γ κ own cc nL ret R) (pc' : Nat) {i : Fin 4} {x : Int32} (k0 : Nat) (hk : lv[k0]? = some ((i : Nat), .int x)) (d : decode cc pc = .ok (.iload_n i, 1)) (hp : pc + 1 = pc') (k : mV Γ Q kc ks n sh P D E lv (.int x :: st) pc') : mV Γ Q kc ks n sh P D E lv (st) pc := by
  obtain ⟨⟨p, l, e, R0, s, m, args, below, meth, c⟩, G, Y, base⟩ := Γ
  obtain ⟨hx, hb, hml, hown, hts, hK, hlk, hrt, hR, hbs, -⟩ := h
  subst hp
  intro H locs ls hR1 hS hl
  exact lv_iload_n hx hb d rfl (lv_at hl k0 hk) (k H locs ls hR1 hS hl)
theorem V_aload (h : mOk Γ κ own cc nL ret R) (pc' : Nat) {i : Nat} {x : Nat} (k0 : Nat) (hk : lv[k0]? = some (i, .ref x)) (d : decode cc pc = .ok (.aload i, 2)) (hp : pc + 2 = pc') (k : mV Γ Q kc ks n sh P D E lv (.ref x :: st) pc') : mV Γ Q kc ks n sh P D E lv (st) pc := by
  obtain ⟨⟨p, l, e, R0, s, m, args, below, meth, c⟩, G, Y, base⟩ := Γ
  obtain ⟨hx, hb, hml, hown, hts, hK, hlk, hrt, hR, hbs, -⟩ := h
  subst hp
  intro H locs ls hR1 hS hl
  exact lv_aload hx hb d (lv_at hl k0 hk) (k H locs ls hR1 hS hl)
theorem V_aload_n (h : mOk Γ κ own cc nL ret R) (pc' : Nat) {i : Fin 4} {x : Nat} (k0 : Nat) (hk : lv[k0]? = some ((i : Nat), .ref x)) (d : decode cc pc = .ok (.aload_n i, 1)) (hp : pc + 1 = pc') (k : mV Γ Q kc ks n sh P D E lv (.ref x :: st) pc') : mV Γ Q kc ks n sh P D E lv (st) pc := by
  obtain ⟨⟨p, l, e, R0, s, m, args, below, meth, c⟩, G, Y, base⟩ := Γ
  obtain ⟨hx, hb, hml, hown, hts, hK, hlk, hrt, hR, hbs, -⟩ := h
  subst hp
  intro H locs ls hR1 hS hl
  exact lv_aload_n hx hb d rfl (lv_at hl k0 hk) (k H locs ls hR1 hS hl)
theorem V_lload_n (h : mOk Γ κ own cc nL ret R) (pc' : Nat) {i : Fin 4} {x : Int64} (k0 : Nat) (hk : lv[k0]? = some ((i : Nat), .long x)) (d : decode cc pc = .ok (.lload_n i, 1)) (hp : pc + 1 = pc') (k : mV Γ Q kc ks n sh P D E lv (.long x :: st) pc') : mV Γ Q kc ks n sh P D E lv (st) pc := by
  obtain ⟨⟨p, l, e, R0, s, m, args, below, meth, c⟩, G, Y, base⟩ := Γ
  obtain ⟨hx, hb, hml, hown, hts, hK, hlk, hrt, hR, hbs, -⟩ := h
  subst hp
  intro H locs ls hR1 hS hl
  exact lv_lload_n hx hb d rfl (lv_at hl k0 hk) (k H locs ls hR1 hS hl)
theorem V_dload (h : mOk Γ κ own cc nL ret R) (pc' : Nat) {i : Nat} {x : UInt64} (k0 : Nat) (hk : lv[k0]? = some (i, .double x)) (d : decode cc pc = .ok (.dload i, 2)) (hp : pc + 2 = pc') (k : mV Γ Q kc ks n sh P D E lv (.double x :: st) pc') : mV Γ Q kc ks n sh P D E lv (st) pc := by
  obtain ⟨⟨p, l, e, R0, s, m, args, below, meth, c⟩, G, Y, base⟩ := Γ
  obtain ⟨hx, hb, hml, hown, hts, hK, hlk, hrt, hR, hbs, -⟩ := h
  subst hp
  intro H locs ls hR1 hS hl
  exact lv_dload hx hb d (lv_at hl k0 hk) (k H locs ls hR1 hS hl)
theorem V_istore (h : mOk Γ κ own cc nL ret R) (pc' : Nat) (lv' : List (Nat × Value)) {i : Nat} {x : Int32} (hi : i < nL) (he : (i, Value.int x) :: lv.filter (fun q => !(q.1 == i) && !(q.1 + 1 == i && q.2.category == 2)) = lv') (d : decode cc pc = .ok (.istore i, 2)) (hp : pc + 2 = pc') (k : mV Γ Q kc ks n sh P D E lv' st pc') : mV Γ Q kc ks n sh P D E lv (.int x :: st) pc := by
  obtain ⟨⟨p, l, e, R0, s, m, args, below, meth, c⟩, G, Y, base⟩ := Γ
  obtain ⟨hx, hb, hml, hown, hts, hK, hlk, hrt, hR, hbs, -⟩ := h
  subst hp
  intro H locs ls hR1 hS hl
  exact lv_istore hx hb d hl (by rw [hml]; exact hi) he (fun ls hl => k H locs ls hR1 hS hl)
theorem V_istore_n (h : mOk Γ κ own cc nL ret R) (pc' : Nat) (lv' : List (Nat × Value)) {i : Fin 4} {x : Int32} (hi : (i : Nat) < nL) (he : ((i : Nat), Value.int x) :: lv.filter (fun q => !(q.1 == (i : Nat)) && !(q.1 + 1 == (i : Nat) && q.2.category == 2)) = lv') (d : decode cc pc = .ok (.istore_n i, 1)) (hp : pc + 1 = pc') (k : mV Γ Q kc ks n sh P D E lv' st pc') : mV Γ Q kc ks n sh P D E lv (.int x :: st) pc := by
  obtain ⟨⟨p, l, e, R0, s, m, args, below, meth, c⟩, G, Y, base⟩ := Γ
  obtain ⟨hx, hb, hml, hown, hts, hK, hlk, hrt, hR, hbs, -⟩ := h
  subst hp
  intro H locs ls hR1 hS hl
  exact lv_istore_n hx hb d rfl hl (by rw [hml]; exact hi) he (fun ls hl => k H locs ls hR1 hS hl)
theorem V_astore (h : mOk Γ κ own cc nL ret R) (pc' : Nat) (lv' : List (Nat × Value)) {i : Nat} {x : Nat} (hi : i < nL) (he : (i, Value.ref x) :: lv.filter (fun q => !(q.1 == i) && !(q.1 + 1 == i && q.2.category == 2)) = lv') (d : decode cc pc = .ok (.astore i, 2)) (hp : pc + 2 = pc') (k : mV Γ Q kc ks n sh P D E lv' st pc') : mV Γ Q kc ks n sh P D E lv (.ref x :: st) pc := by
  obtain ⟨⟨p, l, e, R0, s, m, args, below, meth, c⟩, G, Y, base⟩ := Γ
  obtain ⟨hx, hb, hml, hown, hts, hK, hlk, hrt, hR, hbs, -⟩ := h
  subst hp
  intro H locs ls hR1 hS hl
  exact lv_astore hx hb d hl (by rw [hml]; exact hi) he (fun ls hl => k H locs ls hR1 hS hl)
theorem V_astore_n (h : mOk Γ κ own cc nL ret R) (pc' : Nat) (lv' : List (Nat × Value)) {i : Fin 4} {x : Nat} (hi : (i : Nat) < nL) (he : ((i : Nat), Value.ref x) :: lv.filter (fun q => !(q.1 == (i : Nat)) && !(q.1 + 1 == (i : Nat) && q.2.category == 2)) = lv') (d : decode cc pc = .ok (.astore_n i, 1)) (hp : pc + 1 = pc') (k : mV Γ Q kc ks n sh P D E lv' st pc') : mV Γ Q kc ks n sh P D E lv (.ref x :: st) pc := by
  obtain ⟨⟨p, l, e, R0, s, m, args, below, meth, c⟩, G, Y, base⟩ := Γ
  obtain ⟨hx, hb, hml, hown, hts, hK, hlk, hrt, hR, hbs, -⟩ := h
  subst hp
  intro H locs ls hR1 hS hl
  exact lv_astore_n hx hb d rfl hl (by rw [hml]; exact hi) he (fun ls hl => k H locs ls hR1 hS hl)
theorem V_lstore_n (h : mOk Γ κ own cc nL ret R) (pc' : Nat) (lv' : List (Nat × Value)) {i : Fin 4} {x : Int64} (hi : (i : Nat) + 1 < nL) (he : ((i : Nat), Value.long x) :: lv.filter (fun q => !(q.1 == (i : Nat)) && (!(q.1 == (i : Nat) + 1) && !(q.1 + 1 == (i : Nat) && q.2.category == 2))) = lv') (d : decode cc pc = .ok (.lstore_n i, 1)) (hp : pc + 1 = pc') (k : mV Γ Q kc ks n sh P D E lv' st pc') : mV Γ Q kc ks n sh P D E lv (.long x :: st) pc := by
  obtain ⟨⟨p, l, e, R0, s, m, args, below, meth, c⟩, G, Y, base⟩ := Γ
  obtain ⟨hx, hb, hml, hown, hts, hK, hlk, hrt, hR, hbs, -⟩ := h
  subst hp
  intro H locs ls hR1 hS hl
  exact lv_lstore_n hx hb d rfl hl (by rw [hml]; exact hi) he (fun ls hl => k H locs ls hR1 hS hl)
theorem V_dstore (h : mOk Γ κ own cc nL ret R) (pc' : Nat) (lv' : List (Nat × Value)) {i : Nat} {x : UInt64} (hi : i + 1 < nL) (he : (i, Value.double x) :: lv.filter (fun q => !(q.1 == i) && (!(q.1 == i + 1) && !(q.1 + 1 == i && q.2.category == 2))) = lv') (d : decode cc pc = .ok (.dstore i, 2)) (hp : pc + 2 = pc') (k : mV Γ Q kc ks n sh P D E lv' st pc') : mV Γ Q kc ks n sh P D E lv (.double x :: st) pc := by
  obtain ⟨⟨p, l, e, R0, s, m, args, below, meth, c⟩, G, Y, base⟩ := Γ
  obtain ⟨hx, hb, hml, hown, hts, hK, hlk, hrt, hR, hbs, -⟩ := h
  subst hp
  intro H locs ls hR1 hS hl
  exact lv_dstore hx hb d hl (by rw [hml]; exact hi) he (fun ls hl => k H locs ls hR1 hS hl)
theorem V_iinc (h : mOk Γ κ own cc nL ret R) (pc' : Nat) (lv' : List (Nat × Value)) {i : Nat} {z : Int} {x v : Int32} (k0 : Nat) (hk : lv[k0]? = some (i, .int x)) (hv : x + Int32.ofInt z = v) (hi : i < nL) (he : (i, Value.int v) :: lv.filter (fun q => !(q.1 == i) && !(q.1 + 1 == i && q.2.category == 2)) = lv') (d : decode cc pc = .ok (.iinc i z, 3)) (hp : pc + 3 = pc') (k : mV Γ Q kc ks n sh P D E lv' st pc') : mV Γ Q kc ks n sh P D E lv (st) pc := by
  obtain ⟨⟨p, l, e, R0, s, m, args, below, meth, c⟩, G, Y, base⟩ := Γ
  obtain ⟨hx, hb, hml, hown, hts, hK, hlk, hrt, hR, hbs, -⟩ := h
  subst hp
  intro H locs ls hR1 hS hl
  exact lv_iinc hx hb d hl hk hv (by rw [hml]; exact hi) he (fun ls hl => k H locs ls hR1 hS hl)
theorem V_iadd (h : mOk Γ κ own cc nL ret R) (pc' : Nat) {x y : Int32} (d : decode cc pc = .ok (.iadd, 1)) (hp : pc + 1 = pc') (k : mV Γ Q kc ks n sh P D E lv (.int (x + y) :: st) pc') : mV Γ Q kc ks n sh P D E lv (.int y :: .int x :: st) pc := by
  obtain ⟨⟨p, l, e, R0, s, m, args, below, meth, c⟩, G, Y, base⟩ := Γ
  obtain ⟨hx, hb, hml, hown, hts, hK, hlk, hrt, hR, hbs, -⟩ := h
  subst hp
  intro H locs ls hR1 hS hl
  exact lv_iadd hx hb d (k H locs ls hR1 hS hl)
theorem V_isub (h : mOk Γ κ own cc nL ret R) (pc' : Nat) {x y : Int32} (d : decode cc pc = .ok (.isub, 1)) (hp : pc + 1 = pc') (k : mV Γ Q kc ks n sh P D E lv (.int (x - y) :: st) pc') : mV Γ Q kc ks n sh P D E lv (.int y :: .int x :: st) pc := by
  obtain ⟨⟨p, l, e, R0, s, m, args, below, meth, c⟩, G, Y, base⟩ := Γ
  obtain ⟨hx, hb, hml, hown, hts, hK, hlk, hrt, hR, hbs, -⟩ := h
  subst hp
  intro H locs ls hR1 hS hl
  exact lv_isub hx hb d (k H locs ls hR1 hS hl)
theorem V_imul (h : mOk Γ κ own cc nL ret R) (pc' : Nat) {x y : Int32} (d : decode cc pc = .ok (.imul, 1)) (hp : pc + 1 = pc') (k : mV Γ Q kc ks n sh P D E lv (.int (x * y) :: st) pc') : mV Γ Q kc ks n sh P D E lv (.int y :: .int x :: st) pc := by
  obtain ⟨⟨p, l, e, R0, s, m, args, below, meth, c⟩, G, Y, base⟩ := Γ
  obtain ⟨hx, hb, hml, hown, hts, hK, hlk, hrt, hR, hbs, -⟩ := h
  subst hp
  intro H locs ls hR1 hS hl
  exact lv_imul hx hb d (k H locs ls hR1 hS hl)
theorem V_iand (h : mOk Γ κ own cc nL ret R) (pc' : Nat) {x y : Int32} (d : decode cc pc = .ok (.iand, 1)) (hp : pc + 1 = pc') (k : mV Γ Q kc ks n sh P D E lv (.int (x &&& y) :: st) pc') : mV Γ Q kc ks n sh P D E lv (.int y :: .int x :: st) pc := by
  obtain ⟨⟨p, l, e, R0, s, m, args, below, meth, c⟩, G, Y, base⟩ := Γ
  obtain ⟨hx, hb, hml, hown, hts, hK, hlk, hrt, hR, hbs, -⟩ := h
  subst hp
  intro H locs ls hR1 hS hl
  exact lv_iand hx hb d (k H locs ls hR1 hS hl)
theorem V_idiv (h : mOk Γ κ own cc nL ret R) (pc' : Nat) {x y : Int32} (hne : ¬ y = 0) (d : decode cc pc = .ok (.idiv, 1)) (hp : pc + 1 = pc') (k : mV Γ Q kc ks n sh P D E lv (.int (x / y) :: st) pc') : mV Γ Q kc ks n sh P D E lv (.int y :: .int x :: st) pc := by
  obtain ⟨⟨p, l, e, R0, s, m, args, below, meth, c⟩, G, Y, base⟩ := Γ
  obtain ⟨hx, hb, hml, hown, hts, hK, hlk, hrt, hR, hbs, -⟩ := h
  subst hp
  intro H locs ls hR1 hS hl
  exact lv_idiv hx hb d hne (k H locs ls hR1 hS hl)
theorem V_irem (h : mOk Γ κ own cc nL ret R) (pc' : Nat) {x y : Int32} (hne : ¬ y = 0) (d : decode cc pc = .ok (.irem, 1)) (hp : pc + 1 = pc') (k : mV Γ Q kc ks n sh P D E lv (.int (x - x / y * y) :: st) pc') : mV Γ Q kc ks n sh P D E lv (.int y :: .int x :: st) pc := by
  obtain ⟨⟨p, l, e, R0, s, m, args, below, meth, c⟩, G, Y, base⟩ := Γ
  obtain ⟨hx, hb, hml, hown, hts, hK, hlk, hrt, hR, hbs, -⟩ := h
  subst hp
  intro H locs ls hR1 hS hl
  exact lv_irem hx hb d hne (k H locs ls hR1 hS hl)
theorem V_ineg (h : mOk Γ κ own cc nL ret R) (pc' : Nat) {x : Int32} (d : decode cc pc = .ok (.ineg, 1)) (hp : pc + 1 = pc') (k : mV Γ Q kc ks n sh P D E lv (.int (-x) :: st) pc') : mV Γ Q kc ks n sh P D E lv (.int x :: st) pc := by
  obtain ⟨⟨p, l, e, R0, s, m, args, below, meth, c⟩, G, Y, base⟩ := Γ
  obtain ⟨hx, hb, hml, hown, hts, hK, hlk, hrt, hR, hbs, -⟩ := h
  subst hp
  intro H locs ls hR1 hS hl
  exact lv_ineg hx hb d (k H locs ls hR1 hS hl)
theorem V_i2l (h : mOk Γ κ own cc nL ret R) (pc' : Nat) {x : Int32} (d : decode cc pc = .ok (.i2l, 1)) (hp : pc + 1 = pc') (k : mV Γ Q kc ks n sh P D E lv (.long x.toInt64 :: st) pc') : mV Γ Q kc ks n sh P D E lv (.int x :: st) pc := by
  obtain ⟨⟨p, l, e, R0, s, m, args, below, meth, c⟩, G, Y, base⟩ := Γ
  obtain ⟨hx, hb, hml, hown, hts, hK, hlk, hrt, hR, hbs, -⟩ := h
  subst hp
  intro H locs ls hR1 hS hl
  exact lv_i2l hx hb d rfl (k H locs ls hR1 hS hl)
theorem V_ladd (h : mOk Γ κ own cc nL ret R) (pc' : Nat) {x y : Int64} (d : decode cc pc = .ok (.ladd, 1)) (hp : pc + 1 = pc') (k : mV Γ Q kc ks n sh P D E lv (.long (x + y) :: st) pc') : mV Γ Q kc ks n sh P D E lv (.long y :: .long x :: st) pc := by
  obtain ⟨⟨p, l, e, R0, s, m, args, below, meth, c⟩, G, Y, base⟩ := Γ
  obtain ⟨hx, hb, hml, hown, hts, hK, hlk, hrt, hR, hbs, -⟩ := h
  subst hp
  intro H locs ls hR1 hS hl
  exact lv_ladd hx hb d (k H locs ls hR1 hS hl)
theorem V_lmul (h : mOk Γ κ own cc nL ret R) (pc' : Nat) {x y : Int64} (d : decode cc pc = .ok (.lmul, 1)) (hp : pc + 1 = pc') (k : mV Γ Q kc ks n sh P D E lv (.long (x * y) :: st) pc') : mV Γ Q kc ks n sh P D E lv (.long y :: .long x :: st) pc := by
  obtain ⟨⟨p, l, e, R0, s, m, args, below, meth, c⟩, G, Y, base⟩ := Γ
  obtain ⟨hx, hb, hml, hown, hts, hK, hlk, hrt, hR, hbs, -⟩ := h
  subst hp
  intro H locs ls hR1 hS hl
  exact lv_lmul hx hb d (k H locs ls hR1 hS hl)
theorem V_lcmp (h : mOk Γ κ own cc nL ret R) (pc' : Nat) {x y : Int64} (d : decode cc pc = .ok (.lcmp, 1)) (hp : pc + 1 = pc') (k : mV Γ Q kc ks n sh P D E lv (.int (lg_cmp x y) :: st) pc') : mV Γ Q kc ks n sh P D E lv (.long y :: .long x :: st) pc := by
  obtain ⟨⟨p, l, e, R0, s, m, args, below, meth, c⟩, G, Y, base⟩ := Γ
  obtain ⟨hx, hb, hml, hown, hts, hK, hlk, hrt, hR, hbs, -⟩ := h
  subst hp
  intro H locs ls hR1 hS hl
  exact W.lcmp hx hb d (k H locs ls hR1 hS hl)
theorem V_dup (h : mOk Γ κ own cc nL ret R) (pc' : Nat) {va : Value} (hva : va.category = 1) (d : decode cc pc = .ok (.dup, 1)) (hp : pc + 1 = pc') (k : mV Γ Q kc ks n sh P D E lv (va :: va :: st) pc') : mV Γ Q kc ks n sh P D E lv (va :: st) pc := by
  obtain ⟨⟨p, l, e, R0, s, m, args, below, meth, c⟩, G, Y, base⟩ := Γ
  obtain ⟨hx, hb, hml, hown, hts, hK, hlk, hrt, hR, hbs, -⟩ := h
  subst hp
  intro H locs ls hR1 hS hl
  exact lv_dup hx hb d hva (k H locs ls hR1 hS hl)
theorem V_dup_x1 (h : mOk Γ κ own cc nL ret R) (pc' : Nat) {va vb : Value} (hva : va.category = 1) (hvb : vb.category = 1) (d : decode cc pc = .ok (.dup_x1, 1)) (hp : pc + 1 = pc') (k : mV Γ Q kc ks n sh P D E lv (va :: vb :: va :: st) pc') : mV Γ Q kc ks n sh P D E lv (va :: vb :: st) pc := by
  obtain ⟨⟨p, l, e, R0, s, m, args, below, meth, c⟩, G, Y, base⟩ := Γ
  obtain ⟨hx, hb, hml, hown, hts, hK, hlk, hrt, hR, hbs, -⟩ := h
  subst hp
  intro H locs ls hR1 hS hl
  exact lv_dup_x1 hx hb d hva hvb (k H locs ls hR1 hS hl)
theorem V_dup_x2 (h : mOk Γ κ own cc nL ret R) (pc' : Nat) {va vb vd : Value} (hva : va.category = 1) (hvb : vb.category = 1) (hvd : vd.category = 1) (d : decode cc pc = .ok (.dup_x2, 1)) (hp : pc + 1 = pc') (k : mV Γ Q kc ks n sh P D E lv (va :: vb :: vd :: va :: st) pc') : mV Γ Q kc ks n sh P D E lv (va :: vb :: vd :: st) pc := by
  obtain ⟨⟨p, l, e, R0, s, m, args, below, meth, c⟩, G, Y, base⟩ := Γ
  obtain ⟨hx, hb, hml, hown, hts, hK, hlk, hrt, hR, hbs, -⟩ := h
  subst hp
  intro H locs ls hR1 hS hl
  exact lv_dup_x2 hx hb d hva hvb hvd (k H locs ls hR1 hS hl)
theorem V_dup2 (h : mOk Γ κ own cc nL ret R) (pc' : Nat) {va vb : Value} (hva : va.category = 1) (hvb : vb.category = 1) (d : decode cc pc = .ok (.dup2, 1)) (hp : pc + 1 = pc') (k : mV Γ Q kc ks n sh P D E lv (va :: vb :: va :: vb :: st) pc') : mV Γ Q kc ks n sh P D E lv (va :: vb :: st) pc := by
  obtain ⟨⟨p, l, e, R0, s, m, args, below, meth, c⟩, G, Y, base⟩ := Γ
  obtain ⟨hx, hb, hml, hown, hts, hK, hlk, hrt, hR, hbs, -⟩ := h
  subst hp
  intro H locs ls hR1 hS hl
  exact lv_dup2_11 hx hb d hva hvb (k H locs ls hR1 hS hl)
theorem V_pop (h : mOk Γ κ own cc nL ret R) (pc' : Nat) {va : Value} (hva : va.category = 1) (d : decode cc pc = .ok (.pop, 1)) (hp : pc + 1 = pc') (k : mV Γ Q kc ks n sh P D E lv (st) pc') : mV Γ Q kc ks n sh P D E lv (va :: st) pc := by
  obtain ⟨⟨p, l, e, R0, s, m, args, below, meth, c⟩, G, Y, base⟩ := Γ
  obtain ⟨hx, hb, hml, hown, hts, hK, hlk, hrt, hR, hbs, -⟩ := h
  subst hp
  intro H locs ls hR1 hS hl
  exact lv_pop hx hb d hva (k H locs ls hR1 hS hl)
theorem V_goto (h : mOk Γ κ own cc nL ret R) (tgt : Nat) {off : Int} (d : decode cc pc = .ok (.goto off, 3)) (ht : (pc : Int) + off = (tgt : Int)) (k : mV Γ Q kc ks n sh P D E lv st tgt) : mV Γ Q kc ks n sh P D E lv st pc := by
  obtain ⟨⟨p, l, e, R0, s, m, args, below, meth, c⟩, G, Y, base⟩ := Γ
  obtain ⟨hx, hb, hml, hown, hts, hK, hlk, hrt, hR, hbs, -⟩ := h
  intro H locs ls hR1 hS hl
  exact lv_goto hx hb d ht (k H locs ls hR1 hS hl)
theorem V_icmp_ge (h : mOk Γ κ own cc nL ret R) (tgt pc' : Nat) {x y : Int32} {off : Int} (d : decode cc pc = .ok (.if_icmp .ge off, 3)) (ht : (pc : Int) + off = (tgt : Int)) (hp : pc + 3 = pc') (kt : y ≤ x → mV Γ Q kc ks n sh P D E lv st tgt) (kf : ¬ (y ≤ x) → mV Γ Q kc ks n sh P D E lv st pc') : mV Γ Q kc ks n sh P D E lv (.int y :: .int x :: st) pc := by
  obtain ⟨⟨p, l, e, R0, s, m, args, below, meth, c⟩, G, Y, base⟩ := Γ
  obtain ⟨hx, hb, hml, hown, hts, hK, hlk, hrt, hR, hbs, -⟩ := h
  subst hp
  intro H locs ls hR1 hS hl
  exact lv_icmp_ge hx hb d ht (fun q => kt q H locs ls hR1 hS hl) (fun q => kf q H locs ls hR1 hS hl)
theorem V_icmp_eq (h : mOk Γ κ own cc nL ret R) (tgt pc' : Nat) {x y : Int32} {off : Int} (d : decode cc pc = .ok (.if_icmp .eq off, 3)) (ht : (pc : Int) + off = (tgt : Int)) (hp : pc + 3 = pc') (kt : x = y → mV Γ Q kc ks n sh P D E lv st tgt) (kf : ¬ (x = y) → mV Γ Q kc ks n sh P D E lv st pc') : mV Γ Q kc ks n sh P D E lv (.int y :: .int x :: st) pc := by
  obtain ⟨⟨p, l, e, R0, s, m, args, below, meth, c⟩, G, Y, base⟩ := Γ
  obtain ⟨hx, hb, hml, hown, hts, hK, hlk, hrt, hR, hbs, -⟩ := h
  subst hp
  intro H locs ls hR1 hS hl
  exact lv_icmp_eq hx hb d ht (fun q => kt q H locs ls hR1 hS hl) (fun q => kf q H locs ls hR1 hS hl)
theorem V_icmp_gt (h : mOk Γ κ own cc nL ret R) (tgt pc' : Nat) {x y : Int32} {off : Int} (d : decode cc pc = .ok (.if_icmp .gt off, 3)) (ht : (pc : Int) + off = (tgt : Int)) (hp : pc + 3 = pc') (kt : y < x → mV Γ Q kc ks n sh P D E lv st tgt) (kf : ¬ (y < x) → mV Γ Q kc ks n sh P D E lv st pc') : mV Γ Q kc ks n sh P D E lv (.int y :: .int x :: st) pc := by
  obtain ⟨⟨p, l, e, R0, s, m, args, below, meth, c⟩, G, Y, base⟩ := Γ
  obtain ⟨hx, hb, hml, hown, hts, hK, hlk, hrt, hR, hbs, -⟩ := h
  subst hp
  intro H locs ls hR1 hS hl
  exact lv_icmp_gt hx hb d ht (fun q => kt q H locs ls hR1 hS hl) (fun q => kf q H locs ls hR1 hS hl)
theorem V_icmp_le (h : mOk Γ κ own cc nL ret R) (tgt pc' : Nat) {x y : Int32} {off : Int} (d : decode cc pc = .ok (.if_icmp .le off, 3)) (ht : (pc : Int) + off = (tgt : Int)) (hp : pc + 3 = pc') (kt : x ≤ y → mV Γ Q kc ks n sh P D E lv st tgt) (kf : ¬ (x ≤ y) → mV Γ Q kc ks n sh P D E lv st pc') : mV Γ Q kc ks n sh P D E lv (.int y :: .int x :: st) pc := by
  obtain ⟨⟨p, l, e, R0, s, m, args, below, meth, c⟩, G, Y, base⟩ := Γ
  obtain ⟨hx, hb, hml, hown, hts, hK, hlk, hrt, hR, hbs, -⟩ := h
  subst hp
  intro H locs ls hR1 hS hl
  exact lv_icmp_le hx hb d ht (fun q => kt q H locs ls hR1 hS hl) (fun q => kf q H locs ls hR1 hS hl)
theorem V_icmp_lt (h : mOk Γ κ own cc nL ret R) (tgt pc' : Nat) {x y : Int32} {off : Int} (d : decode cc pc = .ok (.if_icmp .lt off, 3)) (ht : (pc : Int) + off = (tgt : Int)) (hp : pc + 3 = pc') (kt : x < y → mV Γ Q kc ks n sh P D E lv st tgt) (kf : ¬ (x < y) → mV Γ Q kc ks n sh P D E lv st pc') : mV Γ Q kc ks n sh P D E lv (.int y :: .int x :: st) pc := by
  obtain ⟨⟨p, l, e, R0, s, m, args, below, meth, c⟩, G, Y, base⟩ := Γ
  obtain ⟨hx, hb, hml, hown, hts, hK, hlk, hrt, hR, hbs, -⟩ := h
  subst hp
  intro H locs ls hR1 hS hl
  exact lv_icmp_lt hx hb d ht (fun q => kt q H locs ls hR1 hS hl) (fun q => kf q H locs ls hR1 hS hl)
theorem V_icmp_ne (h : mOk Γ κ own cc nL ret R) (tgt pc' : Nat) {x y : Int32} {off : Int} (d : decode cc pc = .ok (.if_icmp .ne off, 3)) (ht : (pc : Int) + off = (tgt : Int)) (hp : pc + 3 = pc') (kt : ¬ x = y → mV Γ Q kc ks n sh P D E lv st tgt) (kf : x = y → mV Γ Q kc ks n sh P D E lv st pc') : mV Γ Q kc ks n sh P D E lv (.int y :: .int x :: st) pc := by
  obtain ⟨⟨p, l, e, R0, s, m, args, below, meth, c⟩, G, Y, base⟩ := Γ
  obtain ⟨hx, hb, hml, hown, hts, hK, hlk, hrt, hR, hbs, -⟩ := h
  subst hp
  intro H locs ls hR1 hS hl
  exact lv_icmp_ne hx hb d ht (fun q => kt q H locs ls hR1 hS hl) (fun q => kf q H locs ls hR1 hS hl)
theorem V_if_eq (h : mOk Γ κ own cc nL ret R) (tgt pc' : Nat) {x : Int32} {off : Int} (d : decode cc pc = .ok (.ifCond .eq off, 3)) (ht : (pc : Int) + off = (tgt : Int)) (hp : pc + 3 = pc') (kt : x = 0 → mV Γ Q kc ks n sh P D E lv st tgt) (kf : ¬ (x = 0) → mV Γ Q kc ks n sh P D E lv st pc') : mV Γ Q kc ks n sh P D E lv (.int x :: st) pc := by
  obtain ⟨⟨p, l, e, R0, s, m, args, below, meth, c⟩, G, Y, base⟩ := Γ
  obtain ⟨hx, hb, hml, hown, hts, hK, hlk, hrt, hR, hbs, -⟩ := h
  subst hp
  intro H locs ls hR1 hS hl
  exact lv_if_eq hx hb d ht (fun q => kt q H locs ls hR1 hS hl) (fun q => kf q H locs ls hR1 hS hl)
theorem V_if_lt (h : mOk Γ κ own cc nL ret R) (tgt pc' : Nat) {x : Int32} {off : Int} (d : decode cc pc = .ok (.ifCond .lt off, 3)) (ht : (pc : Int) + off = (tgt : Int)) (hp : pc + 3 = pc') (kt : x < 0 → mV Γ Q kc ks n sh P D E lv st tgt) (kf : ¬ (x < 0) → mV Γ Q kc ks n sh P D E lv st pc') : mV Γ Q kc ks n sh P D E lv (.int x :: st) pc := by
  obtain ⟨⟨p, l, e, R0, s, m, args, below, meth, c⟩, G, Y, base⟩ := Γ
  obtain ⟨hx, hb, hml, hown, hts, hK, hlk, hrt, hR, hbs, -⟩ := h
  subst hp
  intro H locs ls hR1 hS hl
  exact lv_if_lt hx hb d ht (fun q => kt q H locs ls hR1 hS hl) (fun q => kf q H locs ls hR1 hS hl)
theorem V_if_le (h : mOk Γ κ own cc nL ret R) (tgt pc' : Nat) {x : Int32} {off : Int} (d : decode cc pc = .ok (.ifCond .le off, 3)) (ht : (pc : Int) + off = (tgt : Int)) (hp : pc + 3 = pc') (kt : x ≤ 0 → mV Γ Q kc ks n sh P D E lv st tgt) (kf : ¬ (x ≤ 0) → mV Γ Q kc ks n sh P D E lv st pc') : mV Γ Q kc ks n sh P D E lv (.int x :: st) pc := by
  obtain ⟨⟨p, l, e, R0, s, m, args, below, meth, c⟩, G, Y, base⟩ := Γ
  obtain ⟨hx, hb, hml, hown, hts, hK, hlk, hrt, hR, hbs, -⟩ := h
  subst hp
  intro H locs ls hR1 hS hl
  exact lv_if_le hx hb d ht (fun q => kt q H locs ls hR1 hS hl) (fun q => kf q H locs ls hR1 hS hl)
theorem V_if_gt (h : mOk Γ κ own cc nL ret R) (tgt pc' : Nat) {x : Int32} {off : Int} (d : decode cc pc = .ok (.ifCond .gt off, 3)) (ht : (pc : Int) + off = (tgt : Int)) (hp : pc + 3 = pc') (kt : 0 < x → mV Γ Q kc ks n sh P D E lv st tgt) (kf : ¬ (0 < x) → mV Γ Q kc ks n sh P D E lv st pc') : mV Γ Q kc ks n sh P D E lv (.int x :: st) pc := by
  obtain ⟨⟨p, l, e, R0, s, m, args, below, meth, c⟩, G, Y, base⟩ := Γ
  obtain ⟨hx, hb, hml, hown, hts, hK, hlk, hrt, hR, hbs, -⟩ := h
  subst hp
  intro H locs ls hR1 hS hl
  exact lv_if_gt hx hb d ht (fun q => kt q H locs ls hR1 hS hl) (fun q => kf q H locs ls hR1 hS hl)
theorem V_if_ne (h : mOk Γ κ own cc nL ret R) (tgt pc' : Nat) {x : Int32} {off : Int} (d : decode cc pc = .ok (.ifCond .ne off, 3)) (ht : (pc : Int) + off = (tgt : Int)) (hp : pc + 3 = pc') (kt : ¬ x = 0 → mV Γ Q kc ks n sh P D E lv st tgt) (kf : x = 0 → mV Γ Q kc ks n sh P D E lv st pc') : mV Γ Q kc ks n sh P D E lv (.int x :: st) pc := by
  obtain ⟨⟨p, l, e, R0, s, m, args, below, meth, c⟩, G, Y, base⟩ := Γ
  obtain ⟨hx, hb, hml, hown, hts, hK, hlk, hrt, hR, hbs, -⟩ := h
  subst hp
  intro H locs ls hR1 hS hl
  exact lv_if_ne hx hb d ht (fun q => kt q H locs ls hR1 hS hl) (fun q => kf q H locs ls hR1 hS hl)
theorem V_acmp_eq (h : mOk Γ κ own cc nL ret R) (tgt pc' : Nat) {rx ry : Nat} {off : Int} (d : decode cc pc = .ok (.if_acmp .eq off, 3)) (ht : (pc : Int) + off = (tgt : Int)) (hp : pc + 3 = pc') (kt : rx = ry → mV Γ Q kc ks n sh P D E lv st tgt) (kf : ¬ rx = ry → mV Γ Q kc ks n sh P D E lv st pc') : mV Γ Q kc ks n sh P D E lv (.ref ry :: .ref rx :: st) pc := by
  obtain ⟨⟨p, l, e, R0, s, m, args, below, meth, c⟩, G, Y, base⟩ := Γ
  obtain ⟨hx, hb, hml, hown, hts, hK, hlk, hrt, hR, hbs, -⟩ := h
  subst hp
  intro H locs ls hR1 hS hl
  exact lv_acmp_eq (rx := some rx) (ry := some ry) hx hb d ht (fun q => kt (by simpa using q) H locs ls hR1 hS hl) (fun q => kf (by simpa using q) H locs ls hR1 hS hl)
theorem V_acmp_ne (h : mOk Γ κ own cc nL ret R) (tgt pc' : Nat) {rx ry : Nat} {off : Int} (d : decode cc pc = .ok (.if_acmp .ne off, 3)) (ht : (pc : Int) + off = (tgt : Int)) (hp : pc + 3 = pc') (kt : ¬ rx = ry → mV Γ Q kc ks n sh P D E lv st tgt) (kf : rx = ry → mV Γ Q kc ks n sh P D E lv st pc') : mV Γ Q kc ks n sh P D E lv (.ref ry :: .ref rx :: st) pc := by
  obtain ⟨⟨p, l, e, R0, s, m, args, below, meth, c⟩, G, Y, base⟩ := Γ
  obtain ⟨hx, hb, hml, hown, hts, hK, hlk, hrt, hR, hbs, -⟩ := h
  subst hp
  intro H locs ls hR1 hS hl
  exact lv_acmp_ne (rx := some rx) (ry := some ry) hx hb d ht (fun q => kt (by simpa using q) H locs ls hR1 hS hl) (fun q => kf (by simpa using q) H locs ls hR1 hS hl)
theorem V_tabIn (h : mOk Γ κ own cc nL ret R) (tgt : Nat) {dflt lo hi : Int} {offs : Array Int} {len : Nat} {x : Int32} {off : Int} (d : decode cc pc = .ok (.tableswitch dflt lo hi offs, len)) (h1 : ¬ x.toInt < lo) (h2 : ¬ hi < x.toInt) (ho : offs[(x.toInt - lo).toNat]? = some off) (ht : (pc : Int) + off = (tgt : Int)) (k : mV Γ Q kc ks n sh P D E lv st tgt) : mV Γ Q kc ks n sh P D E lv (.int x :: st) pc := by
  obtain ⟨⟨p, l, e, R0, s, m, args, below, meth, c⟩, G, Y, base⟩ := Γ
  obtain ⟨hx, hb, hml, hown, hts, hK, hlk, hrt, hR, hbs, -⟩ := h
  intro H locs ls hR1 hS hl
  exact lv_tableIn hx hb d h1 h2 ho ht (k H locs ls hR1 hS hl)
theorem V_tabOut (h : mOk Γ κ own cc nL ret R) (tgt : Nat) {dflt lo hi : Int} {offs : Array Int} {len : Nat} {x : Int32} (d : decode cc pc = .ok (.tableswitch dflt lo hi offs, len)) (h1 : x.toInt < lo ∨ hi < x.toInt) (ht : (pc : Int) + dflt = (tgt : Int)) (k : mV Γ Q kc ks n sh P D E lv st tgt) : mV Γ Q kc ks n sh P D E lv (.int x :: st) pc := by
  obtain ⟨⟨p, l, e, R0, s, m, args, below, meth, c⟩, G, Y, base⟩ := Γ
  obtain ⟨hx, hb, hml, hown, hts, hK, hlk, hrt, hR, hbs, -⟩ := h
  intro H locs ls hR1 hS hl
  exact lv_tableOut hx hb d h1 ht (k H locs ls hR1 hS hl)
theorem V_ldc2 (h : mOk Γ κ own cc nL ret R) (pc' : Nat) {idx : Nat} {v : Int64} (hq : Cond.constantLong own idx v ∈ mW) (d : decode cc pc = .ok (.ldc2_w idx, 3)) (hp : pc + 3 = pc') (k : mV Γ Q kc ks n sh P D E lv (.long v :: st) pc') : mV Γ Q kc ks n sh P D E lv st pc := by
  obtain ⟨⟨p, l, e, R0, s, m, args, below, meth, c⟩, G, Y, base⟩ := Γ
  obtain ⟨hx, hb, hml, hown, hts, hK, hlk, hrt, hR, hbs, -⟩ := h
  subst hp
  intro H locs ls hR1 hS hl
  exact lv_ldc2 hx hb hown (hts _ hq) d (k H locs ls hR1 hS hl)
theorem V_top {x : Int32} {y : Int32} (e : x = y) (k : mV Γ Q kc ks n sh P D E lv (.int y :: st) pc) : mV Γ Q kc ks n sh P D E lv (.int x :: st) pc := by rw [e]; exact k
theorem V_topi {x : Int32} (k : ∀ y : Int32, y = x → mV Γ Q kc ks n sh P D E lv (.int y :: st) pc) : mV Γ Q kc ks n sh P D E lv (.int x :: st) pc := k x rfl
theorem V_objInit (h : mOk Γ κ own cc nL ret R) (pc' : Nat) {idx a : Nat} (w1 : Cond.methodLink own idx Lib.objectInit ∈ mW) (hf : 1 ≤ R.frames) (hlo : (st.map fun v => v.category).sum + 12 ≤ R.locals) (d : decode cc pc = .ok (.invokespecial idx, 3)) (hp : pc + 3 = pc') (k : mV Γ Q kc ks n sh P D E lv st pc') : mV Γ Q kc ks n sh P D E lv (.ref a :: st) pc := by
  obtain ⟨⟨p, l, e, R0, s, m, args, below, meth, c⟩, G, Y, base⟩ := Γ
  obtain ⟨hx, hb, hml, hown, hts, hK, hlk, hrt, hR, hbs, -⟩ := h
  subst hp
  subst hR
  intro H locs ls hR1 hS hl
  exact W.objInit hx hb hown (hts _ w1) (hts _ qI_Object_init) (hts _ qC_Object_init) rfl hl.1 rfl d hf (by show 2 * 0 + _ + 12 ≤ _; omega) (k H locs ls hR1 hS hl)
theorem V_lsub (lv' : List (Nat × Value)) (is : List Nat) (he : lv_pick lv is = lv') (k : mV Γ Q kc ks n sh P D E lv' st pc) : mV Γ Q kc ks n sh P D E lv st pc := by
  obtain ⟨⟨p, l, e, R0, s, m, args, below, meth, c⟩, G, Y, base⟩ := Γ
  intro H locs ls hR1 hS hl
  exact k H locs ls hR1 hS (lv_sub hl is he)
theorem V_widen (kc' ks' : Nat) (h1 : kc ≤ kc') (h2 : ks ≤ ks') (k : mV Γ Q kc' ks' n sh P D E lv st pc) : mV Γ Q kc ks n sh P D E lv st pc := by
  obtain ⟨⟨p, l, e, R0, s, m, args, below, meth, c⟩, G, Y, base⟩ := Γ
  intro H locs ls hR1 hS hl
  exact W.widen h1 h2 (k H locs ls hR1 hS hl)
theorem V_less (sh' : mSh) (hs : ∀ a x, sh' a = some x → sh a = some x) (k : mV Γ Q kc ks n sh' P D E lv st pc) : mV Γ Q kc ks n sh P D E lv st pc := by
  obtain ⟨⟨p, l, e, R0, s, m, args, below, meth, c⟩, G, Y, base⟩ := Γ
  intro H locs ls hR1 hS hl
  exact k H locs ls (mR_less hR1 hs) hS hl
theorem V_get (h : mOk Γ κ own cc nL ret R) (pc' : Nat) {ci k N idx a : Nat} {C : String} {T : u_T} (hU : ∀ w ∈ u_ws C T N, w ∈ mW) (hc : vwCl[ci]? = some (C, T, N)) (hN : mN ci = N) (hk : k < N) (hq : Cond.fieldLink own idx (T k).1 (T k).2.1 (T k).2.2.1 ∈ mW) (hr : mrk ci k = false) (hs : sh a = some (.inl ci)) (d : decode cc pc = .ok (.getfield idx, 3)) (hp : pc + 3 = pc') (kk : mV Γ Q kc ks n sh P D E lv (.int (D a k) :: st) pc') : mV Γ Q kc ks n sh P D E lv (.ref a :: st) pc := by
  obtain ⟨⟨p, l, e, R0, s, m, args, below, meth, c⟩, G, Y, base⟩ := Γ
  obtain ⟨hx, hb, hml, hown, hts, hK, hlk, hrt, hR, hbs, -⟩ := h
  subst hp
  intro H locs ls hR1 hS hl
  exact va_get hx hb (fun w hw => hts w hw) hU hown hK.1 (mR_one hR1 hs) 0 rfl hc k hk (hts _ hq) (fun _ h9 => h9) (mfl_geti (by rw [hN]; exact hk) hr) d (kk H locs ls hR1 hS hl)
theorem V_getr (h : mOk Γ κ own cc nL ret R) (pc' : Nat) {ci k N idx a b : Nat} {C : String} {T : u_T} (hU : ∀ w ∈ u_ws C T N, w ∈ mW) (hc : vwCl[ci]? = some (C, T, N)) (hN : mN ci = N) (hk : k < N) (hq : Cond.fieldLink own idx (T k).1 (T k).2.1 (T k).2.2.1 ∈ mW) (hr : mrk ci k = true) (hs : sh a = some (.inl ci)) (hPa : P a k = some b) (d : decode cc pc = .ok (.getfield idx, 3)) (hp : pc + 3 = pc') (kk : mV Γ Q kc ks n sh P D E lv (.ref b :: st) pc') : mV Γ Q kc ks n sh P D E lv (.ref a :: st) pc := by
  obtain ⟨⟨p, l, e, R0, s, m, args, below, meth, c⟩, G, Y, base⟩ := Γ
  obtain ⟨hx, hb, hml, hown, hts, hK, hlk, hrt, hR, hbs, -⟩ := h
  subst hp
  intro H locs ls hR1 hS hl
  exact va_get hx hb (fun w hw => hts w hw) hU hown hK.1 (mR_one hR1 hs) 0 rfl hc k hk (hts _ hq) (fun _ h9 => h9) (mfl_getr (by rw [hN]; exact hk) hr hPa) d (kk H locs ls hR1 hS hl)
theorem V_getN (h : mOk Γ κ own cc nL ret R) (pc' : Nat) {ci k N idx a : Nat} {C host : String} {T : u_T} (hU : ∀ w ∈ u_ws C T N, w ∈ mW) (hc : vwCl[ci]? = some (C, T, N)) (hN : mN ci = N) (hk : k < N) (hq : Cond.fieldLinkNest own idx (T k).1 (T k).2.1 (T k).2.2.1 host ∈ mNest) (hr : mrk ci k = false) (hs : sh a = some (.inl ci)) (d : decode cc pc = .ok (.getfield idx, 3)) (hp : pc + 3 = pc') (kk : mV Γ Q kc ks n sh P D E lv (.int (D a k) :: st) pc') : mV Γ Q kc ks n sh P D E lv (.ref a :: st) pc := by
  obtain ⟨⟨p, l, e, R0, s, m, args, below, meth, c⟩, G, Y, base⟩ := Γ
  obtain ⟨hx, hb, hml, hown, hts, hK, hlk, hrt, hR, hbs, -⟩ := h
  subst hp
  intro H locs ls hR1 hS hl
  exact va_getN hx hb (fun w hw => hts w hw) hU hown hK.1 (mR_one hR1 hs) 0 rfl hc k hk (va_Nw.use rfl (hK.2.1 _ hq)) (fun _ h9 => h9) (mfl_geti (by rw [hN]; exact hk) hr) d (kk H locs ls hR1 hS hl)
theorem V_getrN (h : mOk Γ κ own cc nL ret R) (pc' : Nat) {ci k N idx a b : Nat} {C host : String} {T : u_T} (hU : ∀ w ∈ u_ws C T N, w ∈ mW) (hc : vwCl[ci]? = some (C, T, N)) (hN : mN ci = N) (hk : k < N) (hq : Cond.fieldLinkNest own idx (T k).1 (T k).2.1 (T k).2.2.1 host ∈ mNest) (hr : mrk ci k = true) (hs : sh a = some (.inl ci)) (hPa : P a k = some b) (d : decode cc pc = .ok (.getfield idx, 3)) (hp : pc + 3 = pc') (kk : mV Γ Q kc ks n sh P D E lv (.ref b :: st) pc') : mV Γ Q kc ks n sh P D E lv (.ref a :: st) pc := by
  obtain ⟨⟨p, l, e, R0, s, m, args, below, meth, c⟩, G, Y, base⟩ := Γ
  obtain ⟨hx, hb, hml, hown, hts, hK, hlk, hrt, hR, hbs, -⟩ := h
  subst hp
  intro H locs ls hR1 hS hl
  exact va_getN hx hb (fun w hw => hts w hw) hU hown hK.1 (mR_one hR1 hs) 0 rfl hc k hk (va_Nw.use rfl (hK.2.1 _ hq)) (fun _ h9 => h9) (mfl_getr (by rw [hN]; exact hk) hr hPa) d (kk H locs ls hR1 hS hl)
/-- a cell whose field is written, and the rest of the memory -/
theorem mR_put {G : va_G} {Y : Nat → ClassId} {base n : Nat} {sh : mSh} {P : mPt} {D : mDt} {E : mEt} {H H1 : Heap} (h : mR G Y base n sh P D E H) {a ci k : Nat} {x : Int32} (hs : sh a = some (.inl ci)) (hr : mrk ci k = false) (hz : H1.size = H.size) (hat : va_at G vwCl (a, .inr (ci, (mfl ci (P a) (D a)).set k (.int x))) H1) (oq : ∀ q : Nat, q ≠ a → H1[q]? = H[q]?) : mR G Y base n sh P (upd2 D a k x) E H1 := by
  refine mR_set h hs hz ?_ oq (fun _ _ => rfl) (fun b hb => upd2_ra hb) (fun _ _ => rfl)
  rw [upd2_row]
  rw [mfl_seti hr] at hat
  exact hat
theorem mR_putr {G : va_G} {Y : Nat → ClassId} {base n : Nat} {sh : mSh} {P : mPt} {D : mDt} {E : mEt} {H H1 : Heap} (h : mR G Y base n sh P D E H) {a ci k b : Nat} (hs : sh a = some (.inl ci)) (hr : mrk ci k = true) (hz : H1.size = H.size) (hat : va_at G vwCl (a, .inr (ci, (mfl ci (P a) (D a)).set k (.ref b))) H1) (oq : ∀ q : Nat, q ≠ a → H1[q]? = H[q]?) : mR G Y base n sh (updP P a k (some b)) D E H1 := by
  refine mR_set h hs hz ?_ oq (fun b hb => updP_ra hb) (fun _ _ => rfl) (fun _ _ => rfl)
  rw [updP_row]
  rw [show Value.ref b = va_rf (some b) from rfl, mfl_setr hr] at hat
  exact hat

def mInit (Γ : mC) : Prop := match Γ with
  | ((p, l, e, R, s, m, args, below, meth, c), (G, Y, base)) => meth.name = "<init>"
theorem V_put (h : mOk Γ κ own cc nL ret R) (pc' : Nat) {ci k N idx a : Nat} {x : Int32} {C host : String} {T : u_T} {ty : FieldType} (ty0 : Nat → FieldType) (hty : ∀ k, k < N → parseFieldDescriptor (T k).2.2.1 = some (ty0 k)) (hnm : ∀ a, a < N → ∀ b, b < N → a ≠ b → (T a).2.1 ≠ (T b).2.1) (hU : ∀ w ∈ u_ws C T N, w ∈ mW) (hc : vwCl[ci]? = some (C, T, N)) (hN : mN ci = N) (hk : k < N) (hq : Cond.fieldLink own idx (T k).1 (T k).2.1 (T k).2.2.1 ∈ mW) (hr : mrk ci k = false) (hfin : (T k).2.2.2 = false) (hd : parseFieldDescriptor (T k).2.2.1 = some ty) (hn : narrow ty (.int x) = .int x) (hfit : fits ty (.int x) = true) (hs : sh a = some (.inl ci)) (d : decode cc pc = .ok (.putfield idx, 3)) (hp : pc + 3 = pc') (kk : mV Γ Q kc ks n sh P (upd2 D a k x) E lv st pc') : mV Γ Q kc ks n sh P D E lv (.int x :: .ref a :: st) pc := by
  obtain ⟨⟨p, l, e, R0, s, m, args, below, meth, c⟩, G, Y, base⟩ := Γ
  obtain ⟨hx, hb, hml, hown, hts, hK, hlk, hrt, hR, hbs, -⟩ := h
  subst hp
  intro H locs ls hR1 hS hl
  have hap := va_apart (own := own) (fun w hw => hts w hw) hU ty0 hty hnm hK.1 hc
  obtain ⟨hba, r, h1, cell, q1, q2, q3, q4⟩ := hR1.2 a _ hs
  have hr1 : r = (C, T, N) := Option.some.inj (h1.symm.trans hc)
  subst hr1
  obtain ⟨hS1, hfc, kC, hkC, hkind⟩ := hK.1.1 ci _ hc
  obtain ⟨cf, kf, fi, f, hi, hsl⟩ := hS1 k hk
  have hlay := hts _ (hU _ (u_in_lay hk))
  unfold u_lay at hlay
  rw [if_neg (by rw [hfin]; decide)] at hlay
  have hst := (u_facts hfc hkC (u_lays (fun w hw => hts w hw) hU hk) hi).1
  have h6 := u_store hfc hkC hkind hlay hi hd hn hfit
  refine W.putK hx hb (f := f) ⟨hown, hts _ hq, ⟨_, _, _, hi⟩, hst⟩ (by rw [q2]; exact h6) q1 q3 (by rw [hsl]; exact k2_hasslot (q4 k hk)) rfl rfl d fun H' e1 e2 e3 => ?_
  rw [hsl] at e1 ⊢
  exact kk H' _ ls (mR_put hR1 hs hr e2 ⟨_, hc, t_OB.to (V := updV (vp_V (mfl ci (P a) (D a))) k (.int x)) ⟨_, e1, q2, q3, t_set q4 hap hk (.int x)⟩ (fun j _ => vp_updV_set (by rw [mfl_len, hN]; exact hk) (.int x) j)⟩ e3) (hS.put e2 e3 hba) hl

theorem V_putN (h : mOk Γ κ own cc nL ret R) (pc' : Nat) {ci k N idx a : Nat} {x : Int32} {C host : String} {T : u_T} {ty : FieldType} (ty0 : Nat → FieldType) (hty : ∀ k, k < N → parseFieldDescriptor (T k).2.2.1 = some (ty0 k)) (hnm : ∀ a, a < N → ∀ b, b < N → a ≠ b → (T a).2.1 ≠ (T b).2.1) (hU : ∀ w ∈ u_ws C T N, w ∈ mW) (hc : vwCl[ci]? = some (C, T, N)) (hN : mN ci = N) (hk : k < N) (hq : Cond.fieldLinkNest own idx (T k).1 (T k).2.1 (T k).2.2.1 host ∈ mNest) (hr : mrk ci k = false) (hfin : (T k).2.2.2 = false) (hd : parseFieldDescriptor (T k).2.2.1 = some ty) (hn : narrow ty (.int x) = .int x) (hfit : fits ty (.int x) = true) (hs : sh a = some (.inl ci)) (d : decode cc pc = .ok (.putfield idx, 3)) (hp : pc + 3 = pc') (kk : mV Γ Q kc ks n sh P (upd2 D a k x) E lv st pc') : mV Γ Q kc ks n sh P D E lv (.int x :: .ref a :: st) pc := by
  obtain ⟨⟨p, l, e, R0, s, m, args, below, meth, c⟩, G, Y, base⟩ := Γ
  obtain ⟨hx, hb, hml, hown, hts, hK, hlk, hrt, hR, hbs, -⟩ := h
  subst hp
  intro H locs ls hR1 hS hl
  have hap := va_apart (own := own) (fun w hw => hts w hw) hU ty0 hty hnm hK.1 hc
  obtain ⟨hba, r, h1, cell, q1, q2, q3, q4⟩ := hR1.2 a _ hs
  have hr1 : r = (C, T, N) := Option.some.inj (h1.symm.trans hc)
  subst hr1
  obtain ⟨hS1, hfc, kC, hkC, hkind⟩ := hK.1.1 ci _ hc
  obtain ⟨cf, kf, fi, f, hi, hsl⟩ := hS1 k hk
  have hlay := hts _ (hU _ (u_in_lay hk))
  unfold u_lay at hlay
  rw [if_neg (by rw [hfin]; decide)] at hlay
  have hst := (u_facts hfc hkC (u_lays (fun w hw => hts w hw) hU hk) hi).1
  have h6 := u_store hfc hkC hkind hlay hi hd hn hfit
  refine va_WputK hx hb (f := f) hown (va_Nw.use rfl (hK.2.1 _ hq)) hi hst (by rw [q2]; exact h6) q1 q3 (by rw [hsl]; exact k2_hasslot (q4 k hk)) rfl rfl d fun H' e1 e2 e3 => ?_
  rw [hsl] at e1 ⊢
  exact kk H' _ ls (mR_put hR1 hs hr e2 ⟨_, hc, t_OB.to (V := updV (vp_V (mfl ci (P a) (D a))) k (.int x)) ⟨_, e1, q2, q3, t_set q4 hap hk (.int x)⟩ (fun j _ => vp_updV_set (by rw [mfl_len, hN]; exact hk) (.int x) j)⟩ e3) (hS.put e2 e3 hba) hl

theorem V_putF (h : mOk Γ κ own cc nL ret R) (pc' : Nat) {ci k N idx a : Nat} {x : Int32} {C host : String} {T : u_T} {ty : FieldType} (ty0 : Nat → FieldType) (hty : ∀ k, k < N → parseFieldDescriptor (T k).2.2.1 = some (ty0 k)) (hnm : ∀ a, a < N → ∀ b, b < N → a ≠ b → (T a).2.1 ≠ (T b).2.1) (hU : ∀ w ∈ u_ws C T N, w ∈ mW) (hc : vwCl[ci]? = some (C, T, N)) (hN : mN ci = N) (hk : k < N) (hq : Cond.fieldLink own idx (T k).1 (T k).2.1 (T k).2.2.1 ∈ mW) (hr : mrk ci k = false) (hfin : (T k).2.2.2 = true) (hin2 : mInit Γ) (hdecl : (T k).1 = own) (hd : parseFieldDescriptor (T k).2.2.1 = some ty) (hn : narrow ty (.int x) = .int x) (hfit : fits ty (.int x) = true) (hs : sh a = some (.inl ci)) (d : decode cc pc = .ok (.putfield idx, 3)) (hp : pc + 3 = pc') (kk : mV Γ Q kc ks n sh P (upd2 D a k x) E lv st pc') : mV Γ Q kc ks n sh P D E lv (.int x :: .ref a :: st) pc := by
  obtain ⟨⟨p, l, e, R0, s, m, args, below, meth, c⟩, G, Y, base⟩ := Γ
  obtain ⟨hx, hb, hml, hown, hts, hK, hlk, hrt, hR, hbs, -⟩ := h
  subst hp
  intro H locs ls hR1 hS hl
  have hap := va_apart (own := own) (fun w hw => hts w hw) hU ty0 hty hnm hK.1 hc
  obtain ⟨hba, r, h1, cell, q1, q2, q3, q4⟩ := hR1.2 a _ hs
  have hr1 : r = (C, T, N) := Option.some.inj (h1.symm.trans hc)
  subst hr1
  obtain ⟨hS1, hfc, kC, hkC, hkind⟩ := hK.1.1 ci _ hc
  obtain ⟨cf, kf, fi, f, hi, hsl⟩ := hS1 k hk
  have hlay := hts _ (hU _ (u_in_lay hk))
  unfold u_lay at hlay
  rw [if_pos hfin] at hlay
  have hst := (u_facts hfc hkC (u_lays (fun w hw => hts w hw) hU hk) hi).1
  have hcf : m.cls = cf := by
    obtain ⟨_, _, c', _, _, _, -, -, hf', -, -, -, hown2, -⟩ := Cond.laysFinal_spec hlay
    have e1 : c' = cf := by have := hi.symm.trans hf'; simp at this; exact this.1.symm
    rw [hdecl] at hown2
    rw [← e1]; exact Option.some.inj (hown.symm.trans hown2)
  have h6 := u_fits hfc hkC hkind (Or.inr hlay) hi hd hn hfit
  refine W.putFinK hx hb hown (hts _ hq) hi hst hcf hin2 (by rw [q2]; exact h6) q1 q3 (by rw [hsl]; exact k2_hasslot (q4 k hk)) rfl rfl d fun H' e1 e2 e3 => ?_
  rw [hsl] at e1 ⊢
  exact kk H' _ ls (mR_put hR1 hs hr e2 ⟨_, hc, t_OB.to (V := updV (vp_V (mfl ci (P a) (D a))) k (.int x)) ⟨_, e1, q2, q3, t_set q4 hap hk (.int x)⟩ (fun j _ => vp_updV_set (by rw [mfl_len, hN]; exact hk) (.int x) j)⟩ e3) (hS.put e2 e3 hba) hl

theorem V_putFr (h : mOk Γ κ own cc nL ret R) (pc' : Nat) {ci k N idx a : Nat} {b : Nat} {C host : String} {T : u_T} {ty : FieldType} (ty0 : Nat → FieldType) (hty : ∀ k, k < N → parseFieldDescriptor (T k).2.2.1 = some (ty0 k)) (hnm : ∀ a, a < N → ∀ b, b < N → a ≠ b → (T a).2.1 ≠ (T b).2.1) (hU : ∀ w ∈ u_ws C T N, w ∈ mW) (hc : vwCl[ci]? = some (C, T, N)) (hN : mN ci = N) (hk : k < N) (hq : Cond.fieldLink own idx (T k).1 (T k).2.1 (T k).2.2.1 ∈ mW) (hr : mrk ci k = true) (hfin : (T k).2.2.2 = true) (hin2 : mInit Γ) (hdecl : (T k).1 = own) (hd : parseFieldDescriptor (T k).2.2.1 = some ty) (hn : narrow ty (.ref b) = .ref b) (hfit : fits ty (.ref b) = true) (hs : sh a = some (.inl ci)) (d : decode cc pc = .ok (.putfield idx, 3)) (hp : pc + 3 = pc') (kk : mV Γ Q kc ks n sh (updP P a k (some b)) D E lv st pc') : mV Γ Q kc ks n sh P D E lv (.ref b :: .ref a :: st) pc := by
  obtain ⟨⟨p, l, e, R0, s, m, args, below, meth, c⟩, G, Y, base⟩ := Γ
  obtain ⟨hx, hb, hml, hown, hts, hK, hlk, hrt, hR, hbs, -⟩ := h
  subst hp
  intro H locs ls hR1 hS hl
  have hap := va_apart (own := own) (fun w hw => hts w hw) hU ty0 hty hnm hK.1 hc
  obtain ⟨hba, r, h1, cell, q1, q2, q3, q4⟩ := hR1.2 a _ hs
  have hr1 : r = (C, T, N) := Option.some.inj (h1.symm.trans hc)
  subst hr1
  obtain ⟨hS1, hfc, kC, hkC, hkind⟩ := hK.1.1 ci _ hc
  obtain ⟨cf, kf, fi, f, hi, hsl⟩ := hS1 k hk
  have hlay := hts _ (hU _ (u_in_lay hk))
  unfold u_lay at hlay
  rw [if_pos hfin] at hlay
  have hst := (u_facts hfc hkC (u_lays (fun w hw => hts w hw) hU hk) hi).1
  have hcf : m.cls = cf := by
    obtain ⟨_, _, c', _, _, _, -, -, hf', -, -, -, hown2, -⟩ := Cond.laysFinal_spec hlay
    have e1 : c' = cf := by have := hi.symm.trans hf'; simp at this; exact this.1.symm
    rw [hdecl] at hown2
    rw [← e1]; exact Option.some.inj (hown.symm.trans hown2)
  have h6 := u_fits hfc hkC hkind (Or.inr hlay) hi hd hn hfit
  refine W.putFinK hx hb hown (hts _ hq) hi hst hcf hin2 (by rw [q2]; exact h6) q1 q3 (by rw [hsl]; exact k2_hasslot (q4 k hk)) rfl rfl d fun H' e1 e2 e3 => ?_
  rw [hsl] at e1 ⊢
  exact kk H' _ ls (mR_putr hR1 hs hr e2 ⟨_, hc, t_OB.to (V := updV (vp_V (mfl ci (P a) (D a))) k (.ref b)) ⟨_, e1, q2, q3, t_set q4 hap hk (.ref b)⟩ (fun j _ => vp_updV_set (by rw [mfl_len, hN]; exact hk) (.ref b) j)⟩ e3) (hS.put e2 e3 hba) hl

theorem V_iald (h : mOk Γ κ own cc nL ret R) (pc' : Nat) {a len : Nat} (j : Nat) {i : Int32} (hs : sh a = some (.inr (0, len))) (hi : i = nI j) (hj : j < len) (hlen : len < 2 ^ 31) (d : decode cc pc = .ok (.iaload, 1)) (hp : pc + 1 = pc') (kk : mV Γ Q kc ks n sh P D E lv (.int (D a j) :: st) pc') : mV Γ Q kc ks n sh P D E lv (.int i :: .ref a :: st) pc := by
  obtain ⟨⟨p, l, e, R0, s, m, args, below, meth, c⟩, G, Y, base⟩ := Γ
  obtain ⟨hx, hb, hml, hown, hts, hK, hlk, hrt, hR, hbs, -⟩ := h
  subst hp
  subst hi
  intro H locs ls hR1 hS hl
  have h1 := kk H locs ls hR1 hS hl
  refine va_iald hx hb hK.1 (mR_one hR1 hs) 0 0 rfl rfl (vp_in_nI hj hlen) d ?_
  rw [nI_clamp (show j < 2 ^ 31 by omega)]
  exact h1
theorem V_aald (h : mOk Γ κ own cc nL ret R) (pc' : Nat) {a len b t : Nat} (j : Nat) {i : Int32} (ht : t = 1 ∨ t = 2) (hs : sh a = some (.inr (t, len))) (hi : i = nI j) (hj : j < len) (hlen : len < 2 ^ 31) (hPa : P a j = some b) (d : decode cc pc = .ok (.aaload, 1)) (hp : pc + 1 = pc') (kk : mV Γ Q kc ks n sh P D E lv (.ref b :: st) pc') : mV Γ Q kc ks n sh P D E lv (.int i :: .ref a :: st) pc := by
  obtain ⟨⟨p, l, e, R0, s, m, args, below, meth, c⟩, G, Y, base⟩ := Γ
  obtain ⟨hx, hb, hml, hown, hts, hK, hlk, hrt, hR, hbs, -⟩ := h
  subst hp
  subst hi
  intro H locs ls hR1 hS hl
  have h1 := kk H locs ls hR1 hS hl
  have e1 : (nI j).toNatClampNeg = j := nI_clamp (show j < 2 ^ 31 by omega)
  have hin := vp_in_nI hj hlen
  have hv : va_rf (P a (nI j).toNatClampNeg) = .ref b := by rw [e1, hPa]; rfl
  rcases ht with rfl | rfl
  · exact W.aald (v := .ref b) (ty := .object RX3) hx hb ((mR_one hR1 hs) 0 _ rfl) ((hK.1.2 1 _ rfl).1 len (fun j => va_rf (P a j))) rfl (fun q => by cases q) (by show ¬ ((nI j) < 0 ∨ (arrV _ _ _).slots.size ≤ _); rw [arrV_size]; exact hin) (by show (arrV _ _ _).slots[_]? = _; rw [arrV_read _ _ (by rw [e1]; exact hj), hv]) rfl rfl d h1
  · exact W.aald (v := .ref b) (ty := .array .int) hx hb ((mR_one hR1 hs) 0 _ rfl) ((hK.1.2 2 _ rfl).1 len (fun j => va_rf (P a j))) rfl (fun q => by cases q) (by show ¬ ((nI j) < 0 ∨ (arrV _ _ _).slots.size ≤ _); rw [arrV_size]; exact hin) (by show (arrV _ _ _).slots[_]? = _; rw [arrV_read _ _ (by rw [e1]; exact hj), hv]) rfl rfl d h1
theorem V_iast (h : mOk Γ κ own cc nL ret R) (pc' : Nat) {a len : Nat} (j : Nat) {i x : Int32} (hs : sh a = some (.inr (0, len))) (hi : i = nI j) (hj : j < len) (hlen : len < 2 ^ 31) (d : decode cc pc = .ok (.iastore, 1)) (hp : pc + 1 = pc') (kk : mV Γ Q kc ks n sh P (upd2 D a j x) E lv st pc') : mV Γ Q kc ks n sh P D E lv (.int x :: .int i :: .ref a :: st) pc := by
  obtain ⟨⟨p, l, e, R0, s, m, args, below, meth, c⟩, G, Y, base⟩ := Γ
  obtain ⟨hx, hb, hml, hown, hts, hK, hlk, hrt, hR, hbs, -⟩ := h
  subst hp
  subst hi
  intro H locs ls hR1 hS hl
  have e1 : (nI j).toNatClampNeg = j := nI_clamp (show j < 2 ^ 31 by omega)
  obtain ⟨hba, hat⟩ := hR1.2 a _ hs
  refine W.iast hx hb ((mR_one hR1 hs) 0 _ rfl) ((hK.1.2 0 _ rfl).1 len (fun j => .int (D a j))) (fun q => by cases q) (by show ¬ ((nI j) < 0 ∨ (arrV _ _ _).slots.size ≤ _); rw [arrV_size]; exact vp_in_nI hj hlen) rfl rfl d fun H1 e z oq => ?_
  refine kk H1 _ ls (mR_set hR1 hs z ?_ oq (fun _ _ => rfl) (fun b hb => upd2_ra hb) (fun _ _ => rfl)) (hS.put z oq hba) hl
  show H1[a]? = some (vp_cell _ _)
  rw [e, e1, upd2_row]
  show some ((arrV (Y 0) len (fun q => .int (D a q))).setSlot j (.int x)) = some (arrV (Y 0) len (fun q => .int (upd (D a) j x q)))
  rw [arrV_store]
  congr 2
  funext q
  by_cases hq : q = j
  · subst hq
    simp [updV, upd]
  · simp [updV, upd, hq]
theorem V_alen (h : mOk Γ κ own cc nL ret R) (pc' : Nat) {a len : Nat} {v : Int32} (t : Nat) (ht : t = 0 ∨ t = 1) (hs : sh a = some (.inr (t, len))) (hv : Int32.ofNat len = v) (d : decode cc pc = .ok (.arraylength, 1)) (hp : pc + 1 = pc') (kk : mV Γ Q kc ks n sh P D E lv (.int v :: st) pc') : mV Γ Q kc ks n sh P D E lv (.ref a :: st) pc := by
  obtain ⟨⟨p, l, e, R0, s, m, args, below, meth, c⟩, G, Y, base⟩ := Γ
  obtain ⟨hx, hb, hml, hown, hts, hK, hlk, hrt, hR, hbs, -⟩ := h
  subst hp
  intro H locs ls hR1 hS hl
  rcases ht with rfl | rfl
  · exact va_alen (x := (len, .inl (D a))) hx hb hK.1 (mR_one hR1 hs) 0 0 rfl rfl hv d (kk H locs ls hR1 hS hl)
  · exact va_alen (x := (len, .inr (.inr (.inr (.inr (P a)))))) hx hb hK.1 (mR_one hR1 hs) 0 1 rfl rfl hv d (kk H locs ls hR1 hS hl)

end MV
