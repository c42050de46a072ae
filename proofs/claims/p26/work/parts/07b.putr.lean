section MVp
variable {Γ : mC} {κ : mKp} {Q : State → Prop} {kc ks n : Nat} {sh : mSh} {P : mPt} {D : mDt} {E : mEt} {lv : List (Nat × Value)} {st : List Value} {pc : Nat} {own : String} {cc : ByteArray} {nL : Nat} {ret : Option FieldType} {R : Room}
theorem V_putr (h : mOk Γ κ own cc nL ret R) (pc' : Nat) {ci k N idx a : Nat} {b : Nat} {C host : String} {T : u_T} {ty : FieldType} (ty0 : Nat → FieldType) (hty : ∀ k, k < N → parseFieldDescriptor (T k).2.2.1 = some (ty0 k)) (hnm : ∀ a, a < N → ∀ b, b < N → a ≠ b → (T a).2.1 ≠ (T b).2.1) (hU : ∀ w ∈ u_ws C T N, w ∈ mW) (hc : vwCl[ci]? = some (C, T, N)) (hN : mN ci = N) (hk : k < N) (hq : Cond.fieldLink own idx (T k).1 (T k).2.1 (T k).2.2.1 ∈ mW) (hr : mrk ci k = true) (hfin : (T k).2.2.2 = false) (hd : parseFieldDescriptor (T k).2.2.1 = some ty) (hn : narrow ty (.ref b) = .ref b) (hfit : fits ty (.ref b) = true) (hs : sh a = some (.inl ci)) (d : decode cc pc = .ok (.putfield idx, 3)) (hp : pc + 3 = pc') (kk : mV Γ Q kc ks n sh (updP P a k (some b)) D E lv st pc') : mV Γ Q kc ks n sh P D E lv (.ref b :: .ref a :: st) pc := by
  obtain ⟨⟨p, l, e, R0, s, m, args, below, meth, c⟩, G, Y, base⟩ := Γ
  obtain ⟨hx, hb, hml, hown, hts, hK, hlk, hrt, hR, hbs, -⟩ := h
  subst hp
  intro H locs ls hR1 hS hl
  have hap := va_apart (own := own) (fun w hw => hts w hw) hU ty0 hty hnm hK.1 hc
  obtain ⟨hba, r, h1, cell, q1, q2, q3, q4⟩ := hR1.2 a _ hs
  have hr1 : r = (C, T, N) := Option.some.inj (h1.symm.trans hc)
  subst hr1
  obtain ⟨hS1, hfc, kC, hkC, hkind⟩ := hK.1.1 ci _ hc
  obtain ⟨cf, kf, fi, f, hi, hsl⟩ := hS1 k hk
  have hlay := hts _ (hU _ (u_in_lay hk))
  unfold u_lay at hlay
  rw [if_neg (by rw [hfin]; decide)] at hlay
  have hst := (u_facts hfc hkC (u_lays (fun w hw => hts w hw) hU hk) hi).1
  have h6 := u_store hfc hkC hkind hlay hi hd hn hfit
  refine W.putK hx hb (f := f) ⟨hown, hts _ hq, ⟨_, _, _, hi⟩, hst⟩ (by rw [q2]; exact h6) q1 q3 (by rw [hsl]; exact k2_hasslot (q4 k hk)) rfl rfl d fun H' e1 e2 e3 => ?_
  rw [hsl] at e1 ⊢
  exact kk H' _ ls (mR_putr hR1 hs hr e2 ⟨_, hc, t_OB.to (V := updV (vp_V (mfl ci (P a) (D a))) k (.ref b)) ⟨_, e1, q2, q3, t_set q4 hap hk (.ref b)⟩ (fun j _ => vp_updV_set (by rw [mfl_len, hN]; exact hk) (.ref b) j)⟩ e3) (hS.put e2 e3 hba) hl

end MVp
