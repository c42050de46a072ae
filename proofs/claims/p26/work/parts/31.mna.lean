/-! a row of rows of ints is made at n: N rows of K ints, at n + 1 .. n + N -/
def rwS (sh : mSh) (n N K : Nat) : mSh := fun b => if b = n then some (.inr (2, N)) else if n < b ∧ b ≤ n + N then some (.inr (0, K)) else sh b
def rwP (P : mPt) (n N : Nat) : mPt := fun b j => if b = n then (if j < N then some (n + 1 + j) else none) else P b j
def rwD (D : mDt) (n N : Nat) : mDt := fun b j => if n ≤ b ∧ b ≤ n + N then 0 else D b j
theorem rwS_0 {sh : mSh} {n N K : Nat} : rwS sh n N K n = some (.inr (2, N)) := by simp [rwS]
theorem rwS_1 {sh : mSh} {n N K b : Nat} (h : n < b) (h2 : b ≤ n + N) : rwS sh n N K b = some (.inr (0, K)) := by
  unfold rwS; rw [if_neg (by omega), if_pos ⟨h, h2⟩]
theorem rwS_o {sh : mSh} {n N K b : Nat} (h : b < n ∨ n + N < b) : rwS sh n N K b = sh b := by
  unfold rwS; rw [if_neg (by omega), if_neg (by omega)]
theorem rwP_0 {P : mPt} {n N j : Nat} (h : j < N) : rwP P n N n j = some (n + 1 + j) := by simp [rwP, h]
theorem rwP_o {P : mPt} {n N b : Nat} (h : b ≠ n) : rwP P n N b = P b := by funext j; simp [rwP, h]
theorem rwD_1 {D : mDt} {n N b : Nat} (h : n ≤ b) (h2 : b ≤ n + N) : rwD D n N b = fun _ => 0 := by funext j; unfold rwD; rw [if_pos ⟨h, h2⟩]
theorem rwD_o {D : mDt} {n N b : Nat} (h : b < n ∨ n + N < b) : rwD D n N b = D b := by funext j; unfold rwD; rw [if_neg (by omega)]
theorem mu_outer (c : ClassId) (N h0 : Nat) : ∀ i : Nat, Jvm.Free.Multi.outerC c N h0 i = arrV c N (fun j => va_rf (if j < i then some (h0 + 1 + j) else none))
  | 0 => by
    show ({ cls := c, slots := Array.replicate N .null, vm := .none } : Cell) = _
    rw [arrV_new]
    refine congrArg (arrV c N) (funext fun j => ?_)
    simp [va_rf]
  | i + 1 => by
    show (Jvm.Free.Multi.outerC c N h0 i).setSlot i (.ref (h0 + 1 + i)) = _
    rw [mu_outer c N h0 i, arrV_store]
    refine congrArg (arrV c N) (funext fun j => ?_)
    by_cases e : j = i
    · subst e
      simp [updV, va_rf]
    · by_cases h : j < i
      · simp [updV, e, h, Nat.lt_succ_of_lt h]
      · simp [updV, e, h, show ¬ j < i + 1 by omega]
theorem mSelf (vm : Vm) (c : ClassId) : vm.assignable c c = true := by
  unfold Vm.assignable
  rw [show (256 : Nat) = 255 + 1 from rfl, Vm.assignableAux]
  simp
section MMU
variable {Γ : mC} {κ : mKp} {Q : State → Prop} {kc ks n : Nat} {sh : mSh} {P : mPt} {D : mDt} {E : mEt} {lv : List (Nat × Value)} {st : List Value} {pc : Nat} {own : String} {cc : ByteArray} {nL : Nat} {ret : Option FieldType} {R : Room}
theorem V_mna (h : mOk Γ κ own cc nL ret R) (pc' n' kc' ks' : Nat) {N K idx : Nat} {i k : Int32} (w1 : Cond.classLink own idx "[[I" ∈ mW) (w2 : Cond.arrayClass Jvm.ClassFile.FieldType.int ∈ mW) (hi : i = nI N) (hk : k = nI K) (hN : N * 4 ≤ 536870912) (hK4 : K * 4 ≤ 536870912) (hcells : kc + (1 + N) ≤ R.cells) (hslots : ks + (N + N * K) ≤ R.slots) (d : decode cc pc = .ok (.multianewarray idx 2, 4)) (hp : pc + 4 = pc') (hn : n + 1 + N = n') (hkc : kc + 1 + N = kc') (hks : ks + N + N * K = ks')
    (kk : mV Γ Q kc' ks' n' (rwS sh n N K) (rwP P n N) (rwD D n N) E lv (.ref n :: st) pc') : mV Γ Q kc ks n sh P D E lv (.int k :: .int i :: st) pc := by
  obtain ⟨⟨p, l, e, R0, s, m, args, below, meth, c⟩, G, Y, base⟩ := Γ
  obtain ⟨hx, hb, hml, hown, hts, hK, hlk, hrt, hR, hbs, hκ⟩ := h
  subst hp hn hkc hks
  subst hR
  subst hi hk
  intro H locs ls hR1 hS hl
  have hN31 : N < 2 ^ 31 := by omega
  have hK31 : K < 2 ^ 31 := by omega
  have eN : "[" ++ (FieldType.array .int).toString = "[[I" := by decide +kernel
  have eI : (FieldType.array .int).toString = "[I" := by decide +kernel
  intro T hT Xs
  obtain ⟨vm₁, cA, comp, -, fA, fC, hO, -, X', step⟩ := Xs.multianewarray2F (ty := .int) hx hown (by rw [eN]; exact hts _ w1) (show (Cond.arrayOver (.array .int)).before args s = true from hK.2.2.2) (hts _ w2) (g := F0 m pc ls (.int (nI K) :: .int (nI N) :: st)) rfl (by rw [hb]; exact d) rfl (nI_pos hN31) (nI_pos hK31) (by rw [nI_clamp hN31]; exact hN) (by rw [nI_clamp hK31]; exact hK4) (by rw [nI_clamp hK31]; omega) rfl rfl (by rw [nI_clamp hN31]; exact hcells) (by rw [nI_clamp hN31, nI_clamp hK31]; exact hslots)
  have hcA : cA = Y 2 := Option.some.inj (fA.symm.trans (hK.1.2 2 _ rfl).2)
  have hcI : comp = Y 0 := by rw [eI] at fC; exact Option.some.inj (fC.symm.trans (mK_int hK))
  subst hcA hcI
  rw [nI_clamp hN31, nI_clamp hK31] at X' step
  generalize hF : Jvm.Free.Multi.fill (T.setVm vm₁) (Y 2) (Y 0) N K (defaultValue .int) N = F at X' step
  have hTh : (T.setVm vm₁).heap = H := hT
  obtain ⟨f1, f2, -, -⟩ := Jvm.Free.Multi.fill_facts (T.setVm vm₁) (Y 2) (Y 0) N K (defaultValue .int) N
  rw [hF, hTh] at f1 f2
  have hold : ∀ x : Nat, x < H.size → F.heap[x]? = H[x]? := fun x hx => by
    have := Jvm.Free.Multi.fill_old (T.setVm vm₁) (Y 2) (Y 0) N K (defaultValue .int) (a := x) (by rw [hTh]; exact hx) N
    rw [hF, hTh] at this
    exact this
  have hrow : ∀ j : Nat, j < N → F.heap[H.size + 1 + j]? = some (vp_cell (Y 0) (K, .inl (fun _ => 0))) := fun j hj => by
    have := Jvm.Free.Multi.fill_inner (T.setVm vm₁) (Y 2) (Y 0) N K (defaultValue .int) N j hj
    rw [hF, hTh] at this
    rw [this, vp_cell_i]
    show some ({ cls := Y 0, slots := Array.replicate K (.int 0), vm := .none } : Cell) = _
    rw [arrV_new]
  have hz := hR1.1
  have hb2 : base ≤ n := by rw [← hz]; exact Nat.le_trans hbs hS.1
  rw [hz] at f1 f2 hold hrow
  have hm : mR G Y base (n + 1 + N) (rwS sh n N K) (rwP P n N) (rwD D n N) E F.heap := by
    refine ⟨f1, fun a x hx => ?_⟩
    by_cases e0 : a = n
    · subst e0
      rw [rwS_0] at hx
      cases hx
      refine ⟨hb2, ?_⟩
      show F.heap[a]? = some (vp_cell (Y 2) (N, .inr (.inr (.inr (.inr (rwP P a N a))))))
      rw [f2, mu_outer, vp_cell_q]
      refine congrArg some (congrArg (arrV (Y 2) N) (funext fun j => ?_))
      simp [rwP]
    · by_cases e1 : n < a ∧ a ≤ n + N
      · rw [rwS_1 e1.1 e1.2] at hx
        cases hx
        refine ⟨by omega, ?_⟩
        show F.heap[a]? = some (vp_cell (Y 0) (K, .inl (rwD D n N a)))
        rw [rwD_1 (by omega) e1.2]
        have := hrow (a - (n + 1)) (by omega)
        rw [show n + 1 + (a - (n + 1)) = a by omega] at this
        exact this
      · by_cases e2 : a < n
        · rw [rwS_o (Or.inl e2)] at hx
          obtain ⟨h1, h2⟩ := hR1.2 a x hx
          refine ⟨h1, ?_⟩
          rw [rwP_o e0, rwD_o (Or.inl e2)]
          exact h2.kept (hold a e2)
        · rw [rwS_o (by omega)] at hx
          exact absurd (mR_lt hR1 hx) (by omega)
  obtain ⟨t, a1, b1⟩ := kk F.heap locs ls hm ⟨by rw [f1]; have := hS.1; omega, fun x h1 h2 => (hold x (by have := hS.1; omega)).trans (hS.2.1 x h1 h2), hS.2.2⟩ hl F rfl X'
  refine ⟨t, step t ?_, b1⟩
  have e : T.heap.size = n := by rw [hT]; exact hz
  rw [e]
  exact a1
/-- a row is put into a row of rows -/
theorem V_aast2 (h : mOk Γ κ own cc nL ret R) (pc' : Nat) {a len b K : Nat} (j : Nat) {i : Int32} (hs : sh a = some (.inr (2, len))) (hsb : sh b = some (.inr (0, K))) (hi : i = nI j) (hj : j < len) (hlen : len < 2 ^ 31) (d : decode cc pc = .ok (.aastore, 1)) (hp : pc + 1 = pc') (kk : mV Γ Q kc ks n sh (updP P a j (some b)) D E lv st pc') : mV Γ Q kc ks n sh P D E lv (.ref b :: .int i :: .ref a :: st) pc := by
  obtain ⟨⟨p, l, e, R0, s, m, args, below, meth, c⟩, G, Y, base⟩ := Γ
  obtain ⟨hx, hb, hml, hown, hts, hK, hlk, hrt, hR, hbs, hκ⟩ := h
  subst hp
  subst hi
  intro H locs ls hR1 hS hl
  have hj31 : j < 2 ^ 31 := by omega
  have eI : (FieldType.array .int).toString = "[I" := by decide +kernel
  obtain ⟨comp, c2, k, g1, g2, g3, g4, g5⟩ := mAO2_spec hK.2.2.2
  have hc2 : c2 = Y 2 := Option.some.inj (g5.symm.trans (hK.1.2 2 _ rfl).2)
  have hcI : comp = Y 0 := by rw [eI] at g1; exact Option.some.inj (g1.symm.trans (mK_int hK))
  subst hc2 hcI
  obtain ⟨hba, hca⟩ := hR1.2 a _ hs
  obtain ⟨hbb, hcb⟩ := hR1.2 b _ hsb
  obtain ⟨-, k0, hk0, comp0, hkind0⟩ := (hK.1.2 0 _ rfl).1 0 (fun _ => .int 0)
  refine W.aast hx hb hca (fun q h => by cases h) (fun h => by cases h) g3 g4 rfl hk0 ⟨nI_pos hj31, by show _ < (arrV _ _ _).slots.size; rw [arrV_size, nI_clamp hj31]; exact hj⟩ hcb (fun q h => by cases h) hk0 (mSelf _ _) rfl rfl d fun H1 e z oq => ?_
  refine kk H1 _ ls (mR_set hR1 hs z ?_ oq (fun b hb => updP_ra hb) (fun _ _ => rfl) (fun _ _ => rfl)) (hS.put z oq hba) hl
  show H1[a]? = some (vp_cell _ _)
  rw [e]
  rw [updP_row]
  rw [vp_cell_q, vp_cell_q, arrV_store, nI_clamp hj31]
  congr 2
  funext q
  by_cases hq : q = j
  · subst hq
    simp [updV, va_up, va_rf]
  · simp [updV, va_up, hq]
end MMU
