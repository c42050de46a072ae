/-- cn ints of a0 from place sp on, laid into a from place dp on -/
def cpD (D : mDt) (a0 a sp dp cn : Nat) : mDt := fun b j => if b = a ∧ dp ≤ j ∧ j < dp + cn then D a0 (sp + (j - dp)) else D b j
theorem cpD_ne {D : mDt} {a0 a sp dp cn b : Nat} (h : b ≠ a) : cpD D a0 a sp dp cn b = D b := by funext j; unfold cpD; rw [if_neg (fun q => h q.1)]
theorem cpD_in {D : mDt} {a0 a sp dp cn j : Nat} (h1 : dp ≤ j) (h2 : j < dp + cn) : cpD D a0 a sp dp cn a j = D a0 (sp + (j - dp)) := by unfold cpD; rw [if_pos ⟨rfl, h1, h2⟩]
theorem cpD_out {D : mDt} {a0 a sp dp cn j : Nat} (h : j < dp ∨ dp + cn ≤ j) : cpD D a0 a sp dp cn a j = D a j := by unfold cpD; rw [if_neg (by omega)]
section MCP
variable {Γ : mC} {κ : mKp} {Q : State → Prop} {kc ks n : Nat} {sh : mSh} {P : mPt} {D : mDt} {E : mEt} {lv : List (Nat × Value)} {st : List Value} {pc : Nat} {own : String} {cc : ByteArray} {nL : Nat} {ret : Option FieldType} {R : Room}
theorem V_copyi (h : mOk Γ κ own cc nL ret R) (pc' : Nat) {idx a0 a n0 n1 : Nat} (sp dp cn : Nat) {i1 i2 i3 : Int32} (w1 : Cond.methodLink own idx (⟨"java/lang/System", "arraycopy", "(Ljava/lang/Object;ILjava/lang/Object;II)V"⟩ : MethodName) ∈ mW) (hs0 : sh a0 = some (.inr (0, n0))) (hs1 : sh a = some (.inr (0, n1))) (e1 : i1 = nI sp) (e2 : i2 = nI dp) (e3 : i3 = nI cn) (h4 : sp + cn ≤ n0) (h5 : dp + cn ≤ n1) (hn0 : n0 < 2 ^ 31) (hn1 : n1 < 2 ^ 31) (hf : 1 ≤ R.frames) (hlo : (st.map fun v => v.category).sum + (nativeFrameWords "java/lang/System" "arraycopy" 5 + 11) ≤ R.locals) (d : decode cc pc = .ok (.invokestatic idx, 3)) (hp : pc + 3 = pc') (kk : mV Γ Q kc ks n sh P (cpD D a0 a sp dp cn) E lv st pc') : mV Γ Q kc ks n sh P D E lv (.int i3 :: .int i2 :: .ref a :: .int i1 :: .ref a0 :: st) pc := by
  obtain ⟨⟨p, l, e, R0, s, m, args, below, meth, c⟩, G, Y, base⟩ := Γ
  obtain ⟨hx, hb, hml, hown, hts, hK, hlk, hrt, hR, hbs, hκ⟩ := h
  subst hp e1 e2 e3
  subst hR
  intro H locs ls hR1 hS hl
  have b1 : sp < 2 ^ 31 := by omega
  have b2 : dp < 2 ^ 31 := by omega
  have b3 : cn < 2 ^ 31 := by omega
  obtain ⟨hba0, hc0⟩ := hR1.2 a0 _ hs0
  obtain ⟨hba, hc1⟩ := hR1.2 a _ hs1
  have hc0' : H[a0]? = some (vp_cell (Y 0) (n0, .inl (D a0))) := hc0
  have hc1' : H[a]? = some (vp_cell (Y 0) (n1, .inl (D a))) := hc1
  intro T hT X
  obtain ⟨-, k0, hk0, cm0, hkk0⟩ := (hK.1.2 0 _ rfl).1 n0 (fun j => .int (D a0 j))
  obtain ⟨vm', X', step⟩ := X.arraycopy hx hown (hts _ w1) (hts _ qV_System_arraycopy) (hts _ qT_System_arraycopy) (hts _ qZ_System) (src := a0) (dst := a) (cs := vp_cell (Y 0) (n0, .inl (D a0))) (cd := vp_cell (Y 0) (n1, .inl (D a))) (srcPos := nI sp) (destPos := nI dp) (n := nI cn) (by rw [hT]; exact hc0') (by rw [hT]; exact hc1')
    (fun _ h => by cases h) (fun _ h => by cases h) (fun h => by cases h) (fun h => by cases h) hk0 hk0 hkk0 hkk0 (by simp [refKind]) (nI_pos b1) (nI_pos b2) (nI_pos b3)
    (by rw [nI_toInt b1, nI_toInt b3]; show ¬ _ > ((arrV (Y 0) n0 (fun j => .int (D a0 j))).slots.size : Int); rw [arrV_size]; omega)
    (by rw [nI_toInt b2, nI_toInt b3]; show ¬ _ > ((arrV (Y 0) n1 (fun j => .int (D a j))).slots.size : Int); rw [arrV_size]; omega)
    (fun vm₁ _ i hi => by
      rw [nI_clamp b3] at hi
      rw [nI_clamp b1]
      have e : (vp_cell (Y 0) (n0, .inl (D a0))).slots.getD (sp + i) .null = .int (D a0 (sp + i)) := by
        show (arrV (Y 0) n0 (fun j => .int (D a0 j))).slots.getD _ _ = _
        rw [Array.getD_eq_getD_getElem?, arrV_read _ _ (by omega)]
        rfl
      refine ⟨?_, ?_⟩
      · rw [e]
        rfl
      · rw [e]
        exact trivial)
    (g := F0 m pc ls (.int (nI cn) :: .int (nI dp) :: .ref a :: .int (nI sp) :: .ref a0 :: st)) rfl (by rw [hl.1]) (rest := st) rfl (by rw [hb]; exact d) hf (by show 2 * 0 + _ + _ ≤ _; omega)
  have e1 : copied (vp_cell (Y 0) (n0, .inl (D a0))) (vp_cell (Y 0) (n1, .inl (D a))) (nI sp) (nI dp) (nI cn) = vp_cell (Y 0) (n1, .inl (cpD D a0 a sp dp cn a)) := by
    have q := va_copied (fun z => .int z) (Y 0) (Y 0) (n0 := n0) (n1 := n1) (sp := (nI sp).toNatClampNeg) (dp := (nI dp).toNatClampNeg) (n := (nI cn).toNatClampNeg) (D a0) (D a) (by rw [nI_clamp b1, nI_clamp b3]; exact h4)
    refine Eq.trans (show _ = (arrV (Y 0) n1 (fun j => .int (D a j))).storeRun (nI dp).toNatClampNeg ((arrV (Y 0) n0 (fun j => .int (D a0 j))).stretch (nI sp).toNatClampNeg (nI cn).toNatClampNeg) from rfl) (q.trans ?_)
    rw [nI_clamp b1, nI_clamp b2, nI_clamp b3, vp_cell_i]
    refine congrArg (arrV (Y 0) n1) (funext fun j => ?_)
    by_cases hj : dp ≤ j ∧ j < dp + cn
    · rw [va_cpy, if_pos hj, cpD_in hj.1 hj.2]
    · rw [va_cpy, if_neg hj, cpD_out (by omega)]
  rw [e1] at X' step
  have hla : a < H.size := (Array.getElem?_eq_some_iff.mp hc1').1
  have hheap : ((T.setVm vm').setCell a (vp_cell (Y 0) (n1, .inl (cpD D a0 a sp dp cn a)))).heap = H.setIfInBounds a (vp_cell (Y 0) (n1, .inl (cpD D a0 a sp dp cn a))) := by rw [← hT]; rfl
  have oq : ∀ q : Nat, q ≠ a → (H.setIfInBounds a (vp_cell (Y 0) (n1, .inl (cpD D a0 a sp dp cn a))))[q]? = H[q]? := fun q hq => by simp [Array.getElem?_setIfInBounds, Ne.symm hq]
  have hm := mR_set (P' := P) (D' := cpD D a0 a sp dp cn) (E' := E) (H1 := H.setIfInBounds a (vp_cell (Y 0) (n1, .inl (cpD D a0 a sp dp cn a)))) hR1 hs1 (by simp) (show (H.setIfInBounds a _)[a]? = some _ by simp [Array.getElem?_setIfInBounds, hla]) oq (fun _ _ => rfl) (fun b hb => cpD_ne hb) (fun _ _ => rfl)
  obtain ⟨t, a1, b9⟩ := kk _ _ ls hm ⟨by simp; exact hS.1, fun q g1 g2 => by
      rw [oq q (fun e => g2 (by rw [e]; exact hba))]
      exact hS.2.1 q g1 g2, fun q hq => by
      rcases List.mem_append.mp hq with h | h
      · exact hS.2.2 q h
      · obtain ⟨z, -, hz⟩ := List.mem_map.mp h
        rw [← hz]
        exact hba⟩ hl _ hheap X'
  exact ⟨t, step t a1, b9⟩
end MCP

