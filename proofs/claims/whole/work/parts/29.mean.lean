theorem rsum_le {F : Nat → Int32} {b : Nat} {n : Nat} (h : ∀ p, p < n → ∃ v, v ≤ b ∧ F p = nI v) : ∃ a, a ≤ b * n ∧ rsum F n = nI a := by
  induction n with
  | zero => exact ⟨0, by omega, rfl⟩
  | succ n ih =>
    obtain ⟨a, h1, h2⟩ := ih (fun p hp => h p (Nat.lt_succ_of_lt hp))
    obtain ⟨v, h3, h4⟩ := h n (Nat.lt_succ_self n)
    exact ⟨a + v, by rw [Nat.mul_succ]; omega, by rw [rsum, h2, h4, nI_add]⟩
theorem mean_ok {F : Nat → Int32} {n : Nat} (h : ∀ p, p < n → ∃ v, v ≤ 99 ∧ F p = nI v) (hn : n ≤ 10) (h0 : 0 < n) : vf_n64 (FP.ddiv (FP.i2d (rsum F n)) (FP.i2d (nI n))) := by
  obtain ⟨a, h1, h2⟩ := rsum_le h
  obtain ⟨b, rfl⟩ : ∃ b, n = b + 1 := ⟨n - 1, by omega⟩
  rw [h2]
  exact fp_ok a (by omega) b (by omega)

set_option maxRecDepth 100000 in
set_option maxHeartbeats 4000000 in
theorem c_meanMoist {κ : mKp} {n : Nat} {sh : mSh} {P : mPt} {D : mDt} {E : mEt} {b o o2 o3 : Nat} (hB : bLay b o o2 o3 sh P) {L e m k : Nat} {ρ : Nat → Nat} (hI : cI o L e ρ m k D) (hM : ∀ i, i < 10 → ∃ v, v ≤ 99 ∧ D (o + 6 + i) 6 = nI v) : mFnD κ yX5_meanMoist cX5_meanMoist 2 (Option.some Jvm.ClassFile.FieldType.double) 3 64 [.ref b] n sh P D E (fun r D' => D' = D ∧ r = if nI L ≤ 0 then FP.dconst0 else FP.ddiv (FP.i2d (rsum (fun p => D (o + 6 + ρ p) 6) L)) (FP.i2d (nI L))) := by
  refine mMet_of (by decide) (Nat.le_of_ble_eq_true rfl) ?_
  intro Γ Q hQ h hin
  have h : mOk Γ κ RX5 cX5_meanMoist 2 (Option.some Jvm.ClassFile.FieldType.double) { frames := 3, cells := 0, slots := 0, locals := 64 } := h
  have hL := hB.2.2.2.2.1
  have hL2 := hB.2.2.2.2.2.1
  have hL3 := hB.2.2.2.2.2.2.1
  show mV Γ Q 0 0 n sh P D E [(0, .ref b)] [] 0
  refine V_aload_n h 1 0 rfl dX5_meanMoist_0 rfl ?_
  refine g_X5_10 h 4 (b := o) hB.1 hB.2.1 dX5_meanMoist_1 rfl ?_
  refine gN_X5_30 h 7 (b := o + 2) (L_s0 hL) (L_p1 hL) dX5_meanMoist_4 rfl ?_
  refine CVI h 10 (As := []) (c_countLiving hL) rfl (L_s2 hL) qL_X5_166 qI_X4_countLiving qS_X4_countLiving qZ_X4 qC_X4_countLiving hd_X4_countLiving ⟨Nat.le_of_ble_eq_true rfl, Nat.le_of_ble_eq_true rfl⟩ (Nat.le_of_ble_eq_true rfl) rfl rfl dX5_meanMoist_7 (Nat.zero_le _) (Nat.zero_le _) (fun r1 D1 hq1 => ?_)
  rw [hq1.1, hq1.2]
  refine V_top (y := nI L) hI.1.1.1 ?_
  refine V_istore_n h 11 [(1, .int (nI L)), (0, .ref b)] (by decide) rfl dX5_meanMoist_10 rfl ?_
  refine V_iload_n h 12 0 rfl dX5_meanMoist_11 rfl ?_
  refine V_if_le h 32 15 dX5_meanMoist_12 (by decide) rfl (fun c12 => ?_) (fun c12 => ?_)
  · skip
    refine V_dconst0 h 33 dX5_meanMoist_32 rfl ?_
    exact V_dret h rfl hQ (Nat.zero_le _) (Nat.zero_le _) ⟨rfl, rfl, rfl, rfl, _, rfl, ⟨rfl, (by rw [if_pos c12])⟩⟩ dX5_meanMoist_33
  · skip
    refine V_aload_n h 16 1 rfl dX5_meanMoist_15 rfl ?_
    refine g_X5_10 h 19 (b := o) hB.1 hB.2.1 dX5_meanMoist_16 rfl ?_
    refine gN_X5_30 h 22 (b := o + 2) (L_s0 hL) (L_p1 hL) dX5_meanMoist_19 rfl ?_
    refine CVI h 25 (As := []) (c_sumOfMoist hL hI.1.1) rfl (L_s2 hL) qL_X5_169 qI_X4_sumOfMoist qS_X4_sumOfMoist qZ_X4 qC_X4_sumOfMoist hd_X4_sumOfMoist ⟨Nat.le_of_ble_eq_true rfl, Nat.le_of_ble_eq_true rfl⟩ (Nat.le_of_ble_eq_true rfl) rfl rfl dX5_meanMoist_22 (Nat.zero_le _) (Nat.zero_le _) (fun r2 D2 hq2 => ?_)
    rw [hq2.1, hq2.2]
    refine V_i2d h 26 dX5_meanMoist_25 rfl ?_
    refine V_iload_n h 27 0 rfl dX5_meanMoist_26 rfl ?_
    refine V_i2d h 28 dX5_meanMoist_27 rfl ?_
    refine V_ddiv h 29 (mean_ok (F := fun p => D (o + 6 + ρ p) 6) (fun p hp => hM _ (hI.1.1.2.2 p hp).1) hI.1.1.2.1 (Nat.pos_of_ne_zero (fun z => by subst z; exact c12 (by decide)))) dX5_meanMoist_28 rfl ?_
    refine V_goto h 33 dX5_meanMoist_29 (by decide) ?_
    exact V_dret h rfl hQ (Nat.zero_le _) (Nat.zero_le _) ⟨rfl, rfl, rfl, rfl, _, rfl, ⟨rfl, (by rw [if_neg c12])⟩⟩ dX5_meanMoist_33
