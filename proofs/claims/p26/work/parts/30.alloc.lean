/-! what is made: an object, a row of ints, a row of owners, a row of rows -/
def clrP (P : mPt) (n : Nat) : mPt := fun b j => if b = n then none else P b j
def clrD (D : mDt) (n : Nat) : mDt := fun b j => if b = n then 0 else D b j
theorem clrP_ne {P : mPt} {n b : Nat} (h : b ≠ n) : clrP P n b = P b := by funext j; simp [clrP, h]
theorem clrD_ne {D : mDt} {n b : Nat} (h : b ≠ n) : clrD D n b = D b := by funext j; simp [clrD, h]
theorem clrD_eq {D : mDt} {n : Nat} : clrD D n n = fun _ => 0 := by funext j; simp [clrD]
theorem clrP_eq {P : mPt} {n : Nat} : clrP P n n = fun _ => none := by funext j; simp [clrP]
theorem updS_eq {sh : mSh} {a : Nat} {x : mX} : updS sh a x a = some x := by simp [updS]
theorem updS_ne {sh : mSh} {a b : Nat} {x : mX} (h : b ≠ a) : updS sh a x b = sh b := by simp [updS, h]
theorem updP_eq {P : mPt} {a k : Nat} {x : Option Nat} : updP P a k x a k = x := by simp [updP]
theorem updP_nk {P : mPt} {a k b j : Nat} {x : Option Nat} (h : j ≠ k) : updP P a k x b j = P b j := by simp [updP, h]
section MAL
variable {Γ : mC} {κ : mKp} {Q : State → Prop} {kc ks n : Nat} {sh : mSh} {P : mPt} {D : mDt} {E : mEt} {lv : List (Nat × Value)} {st : List Value} {pc : Nat} {own : String} {cc : ByteArray} {nL : Nat} {ret : Option FieldType} {R : Room}
theorem va_newAt {p : Program} {l : Launch} {e : Env} {R : Room} {s : State} {m : MethodId} {args : Array Value} {below : List Frame} {meth : Method} {c0 : Code} {H : Heap} {locs : List Loc} {cells slots : Nat} {Q : State → Prop} {cc : ByteArray} {pc : Nat} {ls : Array Slot} {rest : List Value} {D : va_G} {cl : List vw_C} {tys : List (ClassId × FieldType)} (hexec : p.tables.exec = Jvm.exec) (hb : c0.code = cc) {own C : String} {T : u_T} {N ci index : Nat} {Ts : List Cond} (hts : ∀ w ∈ Ts, w.before args s = true) (hin : ∀ w ∈ u_ws C T N, w ∈ Ts) (ty : Nat → FieldType) (hty : ∀ k, k < N → parseFieldDescriptor (T k).2.2.1 = some (ty k)) (hown : s.vm.findClass own = some m.cls) (hcl : (Cond.classLink own index C).before args s = true) (hinst : (Cond.instantiable C N).before args s = true) (hini : (Cond.initialized C).before args s = true)
    (hK : va_K D cl tys s) (hc : cl[ci]? = some (C, T, N)) {fs : List Value} (hfs : ∀ j, j < N → defaultValue (ty j) = vp_V fs j) (hcells : cells + 1 ≤ R.cells) (hslots : slots + N ≤ R.slots) (hdg : decode cc pc = .ok (.new index, 3))
    (kk : ∀ (H1 : Heap), va_at D cl (H.size, .inr (ci, fs)) H1 → H1.size = H.size + 1 → (∀ q : Nat, q < H.size → H1[q]? = H[q]?) →
      W p l e R s m args below meth c0 H1 locs (cells + 1) (slots + N) Q (F0 m (pc + 3) ls (.ref H.size :: rest))) : W p l e R s m args below meth c0 H locs cells slots Q (F0 m pc ls rest) := by
  have hKn := hK.1 ci _ hc
  refine W.newcK hexec hb hown hcl hinst hini rfl hdg hcells hslots hKn.2.1 rfl fun H1 kC hkC e1 z1 o1 => ?_
  exact kk H1 ⟨_, hc, (u_born ty hts hin hKn hkC e1 hty).to hfs⟩ z1 o1
theorem V_new (h : mOk Γ κ own cc nL ret R) (pc' n' kc' ks' : Nat) {ci idx N : Nat} {C : String} {T : u_T} (ty0 : Nat → FieldType) (hty : ∀ k, k < N → parseFieldDescriptor (T k).2.2.1 = some (ty0 k)) (hfs : ∀ j, j < N → defaultValue (ty0 j) = vp_V (mfl ci (fun _ => none) (fun _ => 0)) j) (hU : ∀ w ∈ u_ws C T N, w ∈ mW) (hc : vwCl[ci]? = some (C, T, N)) (w1 : Cond.classLink own idx C ∈ mW) (w2 : Cond.instantiable C N ∈ mW) (w3 : Cond.initialized C ∈ mW) (hcells : kc + 1 ≤ R.cells) (hslots : ks + N ≤ R.slots) (d : decode cc pc = .ok (.new idx, 3)) (hp : pc + 3 = pc') (hn : n + 1 = n') (hkc : kc + 1 = kc') (hks : ks + N = ks')
    (kk : mV Γ Q kc' ks' n' (updS sh n (.inl ci)) (clrP P n) (clrD D n) E lv (.ref n :: st) pc') : mV Γ Q kc ks n sh P D E lv st pc := by
  obtain ⟨⟨p, l, e, R0, s, m, args, below, meth, c⟩, G, Y, base⟩ := Γ
  obtain ⟨hx, hb, hml, hown, hts, hK, hlk, hrt, hR, hbs, hκ⟩ := h
  subst hp hn hkc hks
  subst hR
  intro H locs ls hR1 hS hl
  refine va_newAt (fs := mfl ci (fun _ => none) (fun _ => 0)) hx hb (fun w hw => hts w hw) hU ty0 hty hown (hts _ w1) (hts _ w2) (hts _ w3) hK.1 hc hfs hcells hslots d fun H1 hat z1 o1 => ?_
  have hz := hR1.1
  rw [hz] at hat z1 o1 ⊢
  have hb2 : base ≤ n := by rw [← hz]; exact Nat.le_trans hbs hS.1
  refine kk H1 locs ls (mR_new hR1 hb2 z1 ?_ o1 (fun b hb => clrP_ne hb) (fun b hb => clrD_ne hb) (fun _ _ => rfl)) ⟨by rw [z1]; have := hS.1; omega, fun x h1 h2 => (o1 x (by have := hS.1; omega)).trans (hS.2.1 x h1 h2), hS.2.2⟩ hl
  show va_at G vwCl (n, .inr (ci, mfl ci (clrP P n n) (clrD D n n))) H1
  rw [clrP_eq, clrD_eq]
  exact hat
theorem mK_int {G : va_G} {Y : Nat → ClassId} {s : State} (h : mKx G Y s) : s.vm.findClass "[I" = some (Y 0) := va_nm_int (h.1.2 0 _ rfl).2
theorem V_newI (h : mOk Γ κ own cc nL ret R) (pc' n' kc' ks' : Nat) {len : Nat} {i : Int32} (w1 : Cond.arrayClass Jvm.ClassFile.FieldType.int ∈ mW) (hi : i = nI len) (hlen : len * 4 ≤ 536870912) (hcells : kc + 1 ≤ R.cells) (hslots : ks + len ≤ R.slots) (d : decode cc pc = .ok (.newarray .int, 2)) (hp : pc + 2 = pc') (hn : n + 1 = n') (hkc : kc + 1 = kc') (hks : ks + len = ks')
    (kk : mV Γ Q kc' ks' n' (updS sh n (.inr (0, len))) (clrP P n) (clrD D n) E lv (.ref n :: st) pc') : mV Γ Q kc ks n sh P D E lv (.int i :: st) pc := by
  obtain ⟨⟨p, l, e, R0, s, m, args, below, meth, c⟩, G, Y, base⟩ := Γ
  obtain ⟨hx, hb, hml, hown, hts, hK, hlk, hrt, hR, hbs, hκ⟩ := h
  subst hp hn hkc hks
  subst hR
  subst hi
  intro H locs ls hR1 hS hl
  have hl31 : len < 2 ^ 31 := by omega
  refine va_newaK (atype := .int) hx hb (hts _ w1) rfl d rfl (nI_pos hl31) (nI_clamp hl31) hlen hcells hslots rfl fun H1 cA e1 z1 o1 hAr hNm => ?_
  have hcA : cA = Y 0 := by
    have e : "[" ++ (newarray.typeOf .int).toString = "[I" := by decide +kernel
    rw [e] at hNm
    exact Option.some.inj (hNm.symm.trans (mK_int hK))
  subst hcA
  have hz := hR1.1
  rw [hz] at e1 z1 o1 ⊢
  have hb2 : base ≤ n := by rw [← hz]; exact Nat.le_trans hbs hS.1
  refine kk H1 locs ls (mR_new hR1 hb2 z1 ?_ o1 (fun b hb => clrP_ne hb) (fun b hb => clrD_ne hb) (fun _ _ => rfl)) ⟨by rw [z1]; have := hS.1; omega, fun x h1 h2 => (o1 x (by have := hS.1; omega)).trans (hS.2.1 x h1 h2), hS.2.2⟩ hl
  show H1[n]? = some (vp_cell (Y 0) (len, .inl (clrD D n n)))
  rw [clrD_eq, vp_cell_i]
  exact e1
theorem mK_own {G : va_G} {Y : Nat → ClassId} {s : State} (h : mKx G Y s) : ∃ (kA : Class) (comp : ClassId), s.vm.classes[Y 1]? = some kA ∧ kA.kind = .array comp (.object RX3) ∧ s.vm.findClass RX3 = some comp ∧ s.vm.findClass ("[" ++ (FieldType.object RX3).toString) = some (Y 1) := (h.1.2 1 _ rfl).2
theorem V_newQ (h : mOk Γ κ own cc nL ret R) (pc' n' kc' ks' : Nat) {len idx : Nat} {i : Int32} (w1 : Cond.classLink own idx RX3 ∈ mW) (hi : i = nI len) (hlen : len * 4 ≤ 536870912) (hcells : kc + 1 ≤ R.cells) (hslots : ks + len ≤ R.slots) (d : decode cc pc = .ok (.anewarray idx, 3)) (hp : pc + 3 = pc') (hn : n + 1 = n') (hkc : kc + 1 = kc') (hks : ks + len = ks')
    (kk : mV Γ Q kc' ks' n' (updS sh n (.inr (1, len))) (clrP P n) (clrD D n) E lv (.ref n :: st) pc') : mV Γ Q kc ks n sh P D E lv (.int i :: st) pc := by
  obtain ⟨⟨p, l, e, R0, s, m, args, below, meth, c⟩, G, Y, base⟩ := Γ
  obtain ⟨hx, hb, hml, hown, hts, hK, hlk, hrt, hR, hbs, hκ⟩ := h
  subst hp hn hkc hks
  subst hR
  subst hi
  intro H locs ls hR1 hS hl
  have hl31 : len < 2 ^ 31 := by omega
  refine W.anew hx hb hown (hts _ w1) (va_AO.use hK.2.2.1) rfl d rfl (nI_pos hl31) (by rw [nI_clamp hl31]; exact hlen) hcells (by rw [nI_clamp hl31]; exact hslots) fun cA kA comp f1 f2 f3 f4 => ?_
  obtain ⟨kA', comp', g1, g2, g3, g4⟩ := mK_own hK
  have hcA : cA = Y 1 := Option.some.inj (f1.symm.trans g4)
  subst hcA
  have hz := hR1.1
  rw [nI_clamp hl31]
  generalize hH1 : H.push ({ cls := Y 1, slots := Array.replicate len .null, vm := .none } : Cell) = H1
  have z1 : H1.size = H.size + 1 := by rw [← hH1, Array.size_push]
  have e1 : H1[H.size]? = some (arrV (Y 1) len (fun _ => .null)) := by rw [← hH1, Array.getElem?_push_size, ← arrV_new]
  have o1 : ∀ q : Nat, q < H.size → H1[q]? = H[q]? := fun q hq => by rw [← hH1, Array.getElem?_push, if_neg (Nat.ne_of_lt hq)]
  rw [hz] at e1 z1 o1 ⊢
  have hb2 : base ≤ n := by rw [← hz]; exact Nat.le_trans hbs hS.1
  refine kk H1 locs ls (mR_new hR1 hb2 z1 ?_ o1 (fun b hb => clrP_ne hb) (fun b hb => clrD_ne hb) (fun _ _ => rfl)) ⟨by rw [z1]; have := hS.1; omega, fun x h1 h2 => (o1 x (by have := hS.1; omega)).trans (hS.2.1 x h1 h2), hS.2.2⟩ hl
  show H1[n]? = some (vp_cell (Y 1) (len, .inr (.inr (.inr (.inr (clrP P n n))))))
  rw [clrP_eq, vp_cell_q]
  exact e1
/-- a reference is put into a row of owners -/
theorem V_aast (h : mOk Γ κ own cc nL ret R) (pc' : Nat) {a len b : Nat} (j : Nat) {i : Int32} (hs : sh a = some (.inr (1, len))) (hsb : sh b = some (.inl 3)) (hi : i = nI j) (hj : j < len) (hlen : len < 2 ^ 31) (d : decode cc pc = .ok (.aastore, 1)) (hp : pc + 1 = pc') (kk : mV Γ Q kc ks n sh (updP P a j (some b)) D E lv st pc') : mV Γ Q kc ks n sh P D E lv (.ref b :: .int i :: .ref a :: st) pc := by
  obtain ⟨⟨p, l, e, R0, s, m, args, below, meth, c⟩, G, Y, base⟩ := Γ
  obtain ⟨hx, hb, hml, hown, hts, hK, hlk, hrt, hR, hbs, hκ⟩ := h
  subst hp
  subst hi
  intro H locs ls hR1 hS hl
  have hj31 : j < 2 ^ 31 := by omega
  obtain ⟨kA, comp, k1, k2, k3, k4⟩ := mK_own hK
  obtain ⟨hba, hca⟩ := hR1.2 a _ hs
  obtain ⟨hbb, r', hr', cellV, g1, g2, g3, -⟩ := hR1.2 b _ hsb
  have hcls := (hK.1.1 3 _ rfl).2
  have hcomp : comp = G.1 3 := Option.some.inj (k3.symm.trans hcls.1)
  subst hcomp
  obtain ⟨kC, hkC, -⟩ := hcls.2
  refine W.aast hx hb hca (fun q h => by cases h) (fun h => by cases h) k1 k2 rfl hkC ⟨nI_pos hj31, by show _ < (arrV _ _ _).slots.size; rw [arrV_size, nI_clamp hj31]; exact hj⟩ g1 (fun q h => by rw [g3] at h; cases h) (by rw [g2]; exact hkC) (by rw [g2]; exact va_assign hcls) rfl rfl d fun H1 e z oq => ?_
  refine kk H1 _ ls (mR_set hR1 hs z ?_ oq (fun b hb => updP_ra hb) (fun _ _ => rfl) (fun _ _ => rfl)) (hS.put z oq hba) hl
  show H1[a]? = some (vp_cell _ _)
  rw [e]
  rw [updP_row]
  rw [vp_cell_q, vp_cell_q, arrV_store, nI_clamp hj31]
  congr 2
  funext q
  by_cases hq : q = j
  · subst hq
    simp [updV, va_up, va_rf]
  · simp [updV, va_up, hq]
end MAL
