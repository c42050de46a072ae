theorem updS_ne2 {sh : mSh} {a b : Nat} {x : mX} (h : b ≠ a) : updS sh a x b = sh b := by simp [updS, h]
theorem gI_0 {o : Nat} {D : mDt} (h : freshD o D) : gI o 0 0 (fun _ => 0) 0 0 D 0 0 := by
  obtain ⟨h0, h1, h2, h4, h5, h6, h16, h17, h18, h19⟩ := h
  have hW : cW o 0 (fun _ => 0) 0 0 D := ⟨⟨by rw [h2]; rfl, by omega, fun p hp => absurd hp (by omega)⟩, fun i hi => by rw [h6 i hi]; simp [upd], by rw [h16]; rfl, dOk_0 _, by rw [h18]; rfl, dOk_0 _⟩
  have hr : ∀ i, i < 10 → ∀ j, j ≠ 0 → D (o + 6 + i) j = 0 := fun i hi j hj => by rw [h6 i hi]; simp [upd, hj]
  refine ⟨⟨hW, by rw [h2]; rfl, by omega, by omega, fun p q _ hq => absurd hq (by omega), fun p hp => absurd hp (by omega), fun i hi => Or.inr ⟨hr i hi 1 (by decide), fun p hp => absurd hp (by omega)⟩, by rw [h5]; rfl⟩, ⟨hW, fun p q _ hq => absurd hq (by omega), fun i hi => hr i hi 11 (by decide), fun i hi => absurd hi (by omega), fun i hi => absurd hi (by omega), fun i hi => ⟨0, by omega, hr i hi 4 (by decide)⟩, by rw [h0]; rfl⟩, by omega, fun i _ hi j j1 _ => hr i hi j (by omega), fun i hi => ?_, ⟨fun _ => 0, fun i hi => hr i hi 2 (by decide), fun _ => Nat.zero_le _, by decide⟩, fun i hi => absurd hi (by omega), fun i hi => absurd hi (by omega), 40, by omega, by rw [h1]; rfl⟩
  refine ⟨?_, ⟨0, by omega, hr i hi 4 (by decide), 0, by omega, hr i hi 9 (by decide)⟩, ⟨0, by omega, hr i hi 5 (by decide)⟩, ⟨0, by omega, hr i hi 6 (by decide)⟩, ⟨0, by omega, hr i hi 7 (by decide)⟩, 0, by omega, hr i hi 8 (by decide)⟩
  rw [hr i hi 3 (by decide)]
  decide
theorem rSim_0 {o r : Nat} {D : mDt} {lo : Nat → Nat} (h : freshD o D) (hr : rFresh r D) : rSim o 0 0 (fun _ => 0) 0 0 D r lo 0 0 0 D := by
  obtain ⟨h0, h1, h2, h4, h5, h6, h16, h17, h18, h19⟩ := h
  obtain ⟨r0, r1, r2, r3, r4, r5⟩ := hr
  refine ⟨fun i hi j hj => ?_, fun p hp => absurd hp (by omega), fun i hi => absurd hi (by omega), fun i hi => absurd hi (by omega), ?_, ?_⟩
  · rw [r1 i hi, h6 i hi]
    have := clm_ne j hj
    simp [upd, this.1]
  · unfold rHd
    rw [r0, h0, h1]
    exact ⟨rfl, rfl, rfl, rfl, rfl, rfl, rfl, rfl, rfl⟩
  · unfold rTot
    rw [r0, h0]
    exact ⟨rfl, rfl, rfl⟩

set_option maxRecDepth 100000 in
set_option maxHeartbeats 4000000 in
theorem k_start {Γ : mC} {κ : mKp} {Q : State → Prop} (h : mOk Γ κ RL cL_law 9 (Option.some Jvm.ClassFile.FieldType.boolean) { frames := 13, cells := 771262, slots := 6782320, locals := 468 }) (hT : mOkN Γ) (hst : κ.1.stackTraces = false) {bs Ls : Nat} {xs : Nat → Int32} (hX : mScr Γ bs Ls xs) (hLs : Ls ≤ 2560) {b : Nat} (ret : ∀ kc ks n sh P D E lv, kc ≤ 771262 → ks ≤ 6782320 → mV Γ Q kc ks n sh P D E lv [] 1717) : mV Γ Q 0 0 b (fun _ => none) (fun _ _ => none) (fun _ _ => 0) (fun _ _ => 0) [(0, .ref bs)] [] 0 := by
  obtain ⟨P0, eP0⟩ : ∃ z : mPt, z = fun _ _ => none := ⟨_, rfl⟩
  obtain ⟨D0, eD0⟩ : ∃ z : mDt, z = fun _ _ => 0 := ⟨_, rfl⟩
  obtain ⟨E0, eE0⟩ : ∃ z : mEt, z = fun _ _ => 0 := ⟨_, rfl⟩
  rw [← eP0, ← eD0, ← eE0]
  refine V_new (ci := 5) (C := RX5) (T := TX5) h 3 (b + 1) 1 3 tyX5 tyX5_ok (by decide) qU_X5 rfl qK_L_8 qN_X5 qZ_X5 (Nat.le_of_ble_eq_true rfl) (Nat.le_of_ble_eq_true rfl) dL_law_0 rfl rfl rfl rfl ?_
  obtain ⟨S1, eS1⟩ : ∃ zz, zz = updS (fun _ => none) b (.inl 5) := ⟨_, rfl⟩
  rw [← eS1]
  have f1 : S1 b = some (.inl 5) := by rw [eS1]; exact updS_eq
  refine V_dup h 4 rfl dL_law_3 rfl ?_
  refine V_callI h 7 (ret2 := none) (rm := { frames := 4, cells := 60, slots := 879, locals := 82 }) (As := []) (m_bokInit f1) rfl qL_L_82 qI_X5_init qZ_X5 qC_X5_init hd_X5_init ⟨(Nat.le_of_ble_eq_true rfl), (Nat.le_of_ble_eq_true rfl)⟩ (Nat.le_of_ble_eq_true rfl) rfl rfl dL_law_4 ⟨(Nat.le_of_ble_eq_true rfl), (Nat.le_of_ble_eq_true rfl)⟩ (fun v2 n2 S2 P2 D2 E2 hq2 => ?_)
  obtain ⟨q1, q2, qn, qB, g1, g2, g3, qs, qp, qd⟩ := hq2
  rw [q1, q2, qn]
  refine V_astore_n h 8 [(1, .ref b), (0, .ref bs)] (by decide) rfl dL_law_7 rfl ?_
  refine V_new (ci := 7) (C := RX7) (T := TX7) h 11 (b + 62) 62 884 tyX7 tyX7_ok (by decide) qU_X7 rfl qK_L_83 qN_X7 qZ_X7 (Nat.le_of_ble_eq_true rfl) (Nat.le_of_ble_eq_true rfl) dL_law_8 rfl rfl rfl rfl ?_
  obtain ⟨S3, eS3⟩ : ∃ zz, zz = updS S2 (b + 61) (.inl 7) := ⟨_, rfl⟩
  rw [← eS3]
  obtain ⟨P3, eP3⟩ : ∃ zz, zz = clrP P2 (b + 61) := ⟨_, rfl⟩
  rw [← eP3]
  obtain ⟨D3, eD3⟩ : ∃ zz, zz = clrD D2 (b + 61) := ⟨_, rfl⟩
  rw [← eD3]
  have f3 : S3 (b + 61) = some (.inl 7) := by rw [eS3]; exact updS_eq
  refine V_dup h 12 rfl dL_law_11 rfl ?_
  refine V_callI h 15 (ret2 := none) (rm := { frames := 2, cells := 32, slots := 239, locals := 40 }) (As := []) (m_modInit f3) rfl qL_L_85 qI_X7_init qZ_X7 qC_X7_init hd_X7_init ⟨(Nat.le_of_ble_eq_true rfl), (Nat.le_of_ble_eq_true rfl)⟩ (Nat.le_of_ble_eq_true rfl) rfl rfl dL_law_12 ⟨(Nat.le_of_ble_eq_true rfl), (Nat.le_of_ble_eq_true rfl)⟩ (fun v4 n4 S4 P4 D4 E4 hq4 => ?_)
  obtain ⟨u1, u2, un, u7, uP, uL, uF, us, up, ud⟩ := hq4
  have un : n4 = b + 94 := un
  rw [u1, u2, un]
  refine V_astore_n h 16 [(2, .ref (b + 61)), (1, .ref b), (0, .ref bs)] (by decide) rfl dL_law_15 rfl ?_
  refine V_iconst h 17 (v := 1) (by decide) dL_law_16 rfl ?_
  refine V_newJ h 19 (b + 95) 95 1124 (len := 1) qarrayClass_1122 rfl (Nat.le_of_ble_eq_true rfl) (Nat.le_of_ble_eq_true rfl) (Nat.le_of_ble_eq_true rfl) dL_law_17 rfl rfl rfl rfl (by rw [eE0]) ?_
  refine V_astore_n h 20 [(3, .ref (b + 94)), (2, .ref (b + 61)), (1, .ref b), (0, .ref bs)] (by decide) rfl dL_law_19 rfl ?_
  refine V_iconst h 21 (v := 0) (by decide) dL_law_20 rfl ?_
  refine V_istore h 23 [(4, .int 0), (3, .ref (b + 94)), (2, .ref (b + 61)), (1, .ref b), (0, .ref bs)] (by decide) rfl dL_law_21 rfl ?_
  refine V_lsub [(0, .ref bs), (1, .ref b), (2, .ref (b + 61)), (3, .ref (b + 94)), (4, .int (nI 0))] [4, 3, 2, 1, 0] rfl ?_
  have dd : ∀ a, a < b + 61 → D4 a = D2 a := fun a ha => by rw [ud a (by omega), eD3, clrD_ne (by omega)]
  have hf1 := freshD_of (D' := D4) g1 (fun a a1 a2 => dd a (by omega))
  have hf2 := freshD_of (D' := D4) g2 (fun a a1 a2 => dd a (by omega))
  have hf3 := freshD_of (D' := D4) g3 (fun a a1 a2 => dd a (by omega))
  have s4 : ∀ a, a < b + 61 → updS S4 (b + 94) (.inr (3, 1)) a = S2 a := fun a ha => by rw [updS_ne2 (by omega), us a (by omega), eS3, updS_ne2 (by omega)]
  have p4 : ∀ a, a < b + 61 → P4 a = P2 a := fun a ha => by rw [up a (by omega), eP3, clrP_ne (by omega)]
  refine k_loop h hT hst hX hLs (K0 := 95) (S0 := 1124) (by omega) (by omega) ret _ 0 0 95 1124 (b + 95) _ _ _ _ (Nat.lt_succ_self _) (by omega) (by omega) rfl rfl (by omega) ?_
  refine ⟨0, 0, fun _ => 0, 0, 0, 0, fun i => i, ⟨bLay_of qB (fun a _ a2 => s4 a a2) (fun a _ a2 => p4 a a2), ?_, uP, updS_eq, Nat.le_refl _⟩, rLay_of uL (fun a a1 a2 => updS_ne2 (by omega)) (fun _ _ _ => rfl), gI_0 hf1, fun i hi => ?_, fun i hi => ?_, rSim_0 hf1 uF⟩
  · rw [updS_ne2 (by omega)]; exact u7
  · rw [hf2.2.2.2.2.2.1 i hi]; simp [upd]
  · rw [hf3.2.2.2.2.2.1 i hi]; simp [upd]
