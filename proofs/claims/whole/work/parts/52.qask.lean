set_option maxRecDepth 100000 in
set_option maxHeartbeats 4000000 in
theorem q_many {κ : mKp} {n : Nat} {sh : mSh} {P : mPt} {D : mDt} {E : mEt} {q r : Nat} {lo : Nat → Nat} (hmS : sh q = some (.inl 7)) (hmP : P q 1 = some r) (hqr : q < r) (hL : rLay r lo sh P) {o L e m k : Nat} {ρ : Nat → Nat} {V : mDt} (hS : rSim o L e ρ m k V r lo 0 0 0 D) (hI : cI o L e ρ m k V) (hrn : r + 32 ≤ n) (w : Int32) : mMet κ yX7_many cX7_many 2 (Option.some Jvm.ClassFile.FieldType.int) { frames := 3, cells := 1, slots := 16, locals := 64 } [.ref q, .int w] n sh P D E (qP n sh P D E q r (fun ans lo' D' => rOut 1 2 True (wP w 0 15) True (D' q 0) ((∃ w1, w1 ≤ 15 ∧ w = nI w1 ∧ ans = askA o L ρ V w1) ∧ rSim o L e ρ m k V r lo' 0 0 0 D') (rSim o L e ρ m k V r lo' 0 0 0 D'))) := by
  refine mMet_of (by decide) (Nat.le_of_ble_eq_true rfl) ?_
  intro Γ Q hQ h hin
  have h : mOk Γ κ RX7 cX7_many 2 (Option.some Jvm.ClassFile.FieldType.int) { frames := 3, cells := 1, slots := 16, locals := 64 } := h
  have hW := hI.1
  have hinj := hI.2.2.2.2.1
  have hρ : ∀ p, p < L → ρ p < 10 := fun p hp => (hW.1.2.2 p hp).1
  have hL10 := hW.1.2.1
  have hm8 := hW.2.2.2.1.1
  have hk8 := hW.2.2.2.2.2.1
  show mV Γ Q 0 0 n sh P D E [(0, .ref q), (1, .int w)] [] 0
  refine V_aload_n h 1 0 rfl dX7_many_0 rfl ?_
  refine V_iconst h 2 (v := 0) (by decide) dX7_many_1 rfl ?_
  refine p_X7_16 h 5 hmS dX7_many_2 rfl ?_
  obtain ⟨D1, eD1⟩ : ∃ zz, zz = upd2 D q 0 0 := ⟨_, rfl⟩
  rw [← eD1]
  have hS1 := rSim_q (D' := D1) hS hm8 hk8 hL.2.2.2.1 hqr (fun a ha => by rw [eD1, upd2_ra ha])
  refine V_iload_n h 6 1 rfl dX7_many_5 rfl ?_
  refine V_iconst h 7 (v := 0) (by decide) dX7_many_6 rfl ?_
  refine V_bipush h 9 (v := 15) (by decide) dX7_many_7 rfl ?_
  refine CSI h 12 (As := [.int w, .int 0, .int 15]) (q_in w 0 15) qL_X7_23 qT_X7_in qZ_X7 qC_X7_in hd_X7_in ⟨Nat.le_of_ble_eq_true rfl, Nat.le_of_ble_eq_true rfl⟩ (Nat.le_of_ble_eq_true rfl) rfl rfl dX7_many_9 (Nat.le_of_ble_eq_true rfl) (Nat.le_of_ble_eq_true rfl) (fun r2 D2 hq2 => ?_)
  rw [hq2.1, hq2.2]
  refine V_if_ne h 21 15 dX7_many_12 (by decide) rfl (fun c12 => ?_) (fun c12 => ?_)
  · skip
    have G2 := wI_1 c12
    obtain ⟨w1, -, hw1, ew⟩ := wP_N (a := 0) (b := 15) G2 (by decide) (by decide)
    subst ew
    refine V_aload_n h 22 0 rfl dX7_many_21 rfl ?_
    refine V_iload_n h 23 1 rfl dX7_many_22 rfl ?_
    refine V_callV h 26 (rm := { frames := 2, cells := 1, slots := 16, locals := 41 }) (As := [.int (nI w1)]) (q_manyNow hmS hmP hqr hL hS1 hI hrn (w := w1) (by omega)) rfl hmS qL_X7_142 qI_X7_manyNow qS_X7_manyNow qZ_X7 qC_X7_manyNow hd_X7_manyNow ⟨Nat.le_of_ble_eq_true rfl, Nat.le_of_ble_eq_true rfl⟩ (Nat.le_of_ble_eq_true rfl) rfl rfl dX7_many_23 ⟨(Nat.le_of_ble_eq_true rfl), (Nat.le_of_ble_eq_true rfl)⟩ (fun v3 n3 S3 P3 D3 E3 hq3 => ?_)
    obtain ⟨hn3, q43, hA3, an3, q53, ea3⟩ := hq3
    subst q53
    have q4z3 := q43.symm
    subst q4z3
    exact V_iret h rfl hQ (Nat.le_of_ble_eq_true rfl) (Nat.le_of_ble_eq_true rfl) ⟨hn3, rfl, fun a ha => (hA3 a ha).1, fun a ha _ => (hA3 a ha).2.1, _, rfl, lo, agr_L hA3 hL hrn, fun a ha h2 => by rw [(hA3 a ha).2.2, eD1, upd2_ra (by omega)], rO4 trivial G2 trivial (by rw [(hA3 q (by omega)).2.2, eD1, upd2_eq]) ⟨⟨w1, hw1, rfl, ea3⟩, agr_S hA3 hS1 hm8 hk8 hL.2.2.2.1 hrn⟩⟩ dX7_many_26
  · skip
    refine V_aload_n h 16 0 rfl dX7_many_15 rfl ?_
    refine V_iconst h 17 (v := 1) (by decide) dX7_many_16 rfl ?_
    refine CVI h 20 (As := [.int 1]) (q_no hmS 1) rfl hmS qL_X7_31 qI_X7_no qS_X7_no qZ_X7 qC_X7_no hd_X7_no ⟨Nat.le_of_ble_eq_true rfl, Nat.le_of_ble_eq_true rfl⟩ (Nat.le_of_ble_eq_true rfl) rfl rfl dX7_many_17 (Nat.le_of_ble_eq_true rfl) (Nat.le_of_ble_eq_true rfl) (fun r4 D4 hq4 => ?_)
    obtain ⟨eD4, erD4⟩ := hq4
    rw [erD4]
    exact V_iret h rfl hQ (Nat.le_of_ble_eq_true rfl) (Nat.le_of_ble_eq_true rfl) ⟨Nat.le_refl _, rfl, fun _ _ => rfl, fun _ _ _ => rfl, _, rfl, lo, hL, fun a _ ha => by rw [eD4, eD1, upd2_ra (by omega), upd2_ra (by omega)], rO2 trivial (wI_0 c12) (by rw [eD4, upd2_eq]) (rSim_q hS hm8 hk8 hL.2.2.2.1 hqr (fun a ha => by rw [eD4, eD1, upd2_ra ha, upd2_ra ha]))⟩ dX7_many_20

set_option maxRecDepth 100000 in
set_option maxHeartbeats 4000000 in
theorem q_wouldCome {κ : mKp} {n : Nat} {sh : mSh} {P : mPt} {D : mDt} {E : mEt} {q r : Nat} {lo : Nat → Nat} (hmS : sh q = some (.inl 7)) (hmP : P q 1 = some r) (hqr : q < r) (hL : rLay r lo sh P) {o L e m k : Nat} {ρ : Nat → Nat} {V : mDt} {t1 t2 t3 : Int32} (hS : rSim o L e ρ m k V r lo t1 t2 t3 D) (hI : cI o L e ρ m k V) (hrn : r + 32 ≤ n) (hz : ∀ i, e ≤ i → i < 10 → ∀ j, 1 ≤ j → j < 15 → V (o + 6 + i) j = 0) {dd : Nat} (hG : gX o L ρ m k V dd) (hdd : dd < 2 ^ 29) {o2 : Nat} {V2 : mDt} (v x w : Int32) (hl : livP L ρ v → (wP x 0 99 ∧ wP w 1 70) → lkV o o2 L ρ m k V V2) : mMet κ yX7_wouldCome cX7_wouldCome 4 (Option.some Jvm.ClassFile.FieldType.int) { frames := 6, cells := 32, slots := 239, locals := 143 } [.ref q, .int v, .int x, .int w] n sh P D E (qP n sh P D E q r (fun ans lo' D' => rOut 2 3 (livP L ρ v) (wP x 0 99 ∧ wP w 1 70) True (D' q 0) ((∃ p d, p < L ∧ v = nI (ρ p) ∧ 1 ≤ d ∧ d ≤ 70 ∧ w = nI d ∧ ans = (daysD o2 ρ L x (V2, m, k) d).1 (o2 + 6 + ρ p) 13 - V (o + 6 + ρ p) 13) ∧ rSim o L e ρ m k V r lo' t1 t2 t3 D') (rSim o L e ρ m k V r lo' t1 t2 t3 D'))) := by
  refine mMet_of (by decide) (Nat.le_of_ble_eq_true rfl) ?_
  intro Γ Q hQ h hin
  have h : mOk Γ κ RX7 cX7_wouldCome 4 (Option.some Jvm.ClassFile.FieldType.int) { frames := 6, cells := 32, slots := 239, locals := 143 } := h
  have hW := hI.1
  have hinj := hI.2.2.2.2.1
  have hρ : ∀ p, p < L → ρ p < 10 := fun p hp => (hW.1.2.2 p hp).1
  have hL10 := hW.1.2.1
  have hm8 := hW.2.2.2.1.1
  have hk8 := hW.2.2.2.2.2.1
  show mV Γ Q 0 0 n sh P D E [(0, .ref q), (1, .int v), (2, .int x), (3, .int w)] [] 0
  refine V_aload_n h 1 0 rfl dX7_wouldCome_0 rfl ?_
  refine V_iconst h 2 (v := 0) (by decide) dX7_wouldCome_1 rfl ?_
  refine p_X7_16 h 5 hmS dX7_wouldCome_2 rfl ?_
  obtain ⟨D1, eD1⟩ : ∃ zz, zz = upd2 D q 0 0 := ⟨_, rfl⟩
  rw [← eD1]
  have hS1 := rSim_q (D' := D1) hS hm8 hk8 hL.2.2.2.1 hqr (fun a ha => by rw [eD1, upd2_ra ha])
  refine V_aload_n h 6 0 rfl dX7_wouldCome_5 rfl ?_
  refine V_iload_n h 7 1 rfl dX7_wouldCome_6 rfl ?_
  refine CVI h 10 (As := [.int v]) (q_lives hmS hmP hqr hL hS1 hI v) rfl hmS qL_X7_56 qI_X7_lives qS_X7_lives qZ_X7 qC_X7_lives hd_X7_lives ⟨Nat.le_of_ble_eq_true rfl, Nat.le_of_ble_eq_true rfl⟩ (Nat.le_of_ble_eq_true rfl) rfl rfl dX7_wouldCome_7 (Nat.le_of_ble_eq_true rfl) (Nat.le_of_ble_eq_true rfl) (fun r2 D2 hq2 => ?_)
  rw [hq2.1]
  have hv_v := hq2.2
  refine V_if_ne h 19 13 dX7_wouldCome_10 (by decide) rfl (fun c10 => ?_) (fun c10 => ?_)
  · skip
    have hl_x := lv_y hv_v c10
    refine V_iload_n h 20 2 rfl dX7_wouldCome_19 rfl ?_
    refine V_iload_n h 21 3 rfl dX7_wouldCome_20 rfl ?_
    refine V_bipush h 23 (v := 70) (by decide) dX7_wouldCome_21 rfl ?_
    refine CSI h 26 (As := [.int x, .int w, .int 70]) (q_isTime x w 70) qL_X7_106 qT_X7_isTime qZ_X7 qC_X7_isTime hd_X7_isTime ⟨Nat.le_of_ble_eq_true rfl, Nat.le_of_ble_eq_true rfl⟩ (Nat.le_of_ble_eq_true rfl) rfl rfl dX7_wouldCome_23 (Nat.le_of_ble_eq_true rfl) (Nat.le_of_ble_eq_true rfl) (fun r3 D3 hq3 => ?_)
    rw [hq3.1]
    have hv_t := hq3.2
    refine V_if_ne h 35 29 dX7_wouldCome_26 (by decide) rfl (fun c26 => ?_) (fun c26 => ?_)
    · skip
      have G2 := tm_y hv_t c26
      have hl2 := hl hl_x G2
      have hl_x2 := hl_x
      obtain ⟨p, hp, ex⟩ := hl_x2
      have hp10 := hρ p hp
      have hw2 := G2.2
      obtain ⟨d, hd1, hd2, ew⟩ := wP_N (a := 1) (b := 70) hw2 (by decide) (by decide)
      subst ex
      subst ew
      refine V_aload_n h 36 0 rfl dX7_wouldCome_35 rfl ?_
      refine V_iload_n h 37 1 rfl dX7_wouldCome_36 rfl ?_
      refine V_iload_n h 38 2 rfl dX7_wouldCome_37 rfl ?_
      refine V_iload_n h 39 3 rfl dX7_wouldCome_38 rfl ?_
      refine V_callV h 42 (rm := { frames := 5, cells := 32, slots := 239, locals := 119 }) (As := [.int (nI (ρ p)), .int x, .int (nI d)]) (q_comeNow hmS hmP hqr hL hS1 hI hrn hz hG hdd hl2 hp x (d := d) (by omega)) rfl hmS qL_X7_149 qI_X7_comeNow qS_X7_comeNow qZ_X7 qC_X7_comeNow hd_X7_comeNow ⟨Nat.le_of_ble_eq_true rfl, Nat.le_of_ble_eq_true rfl⟩ (Nat.le_of_ble_eq_true rfl) rfl rfl dX7_wouldCome_39 ⟨(Nat.le_of_ble_eq_true rfl), (Nat.le_of_ble_eq_true rfl)⟩ (fun v4 n4 S4 P4 D4 E4 hq4 => ?_)
      obtain ⟨hn4, q44, hA4, an4, q54, ea4⟩ := hq4
      subst q54
      have q4z4 := q44.symm
      subst q4z4
      exact V_iret h rfl hQ (Nat.le_of_ble_eq_true rfl) (Nat.le_of_ble_eq_true rfl) ⟨hn4, rfl, fun a ha => (hA4 a ha).1, fun a ha _ => (hA4 a ha).2.1, _, rfl, lo, agr_L hA4 hL hrn, fun a ha h2 => by rw [(hA4 a ha).2.2, eD1, upd2_ra (by omega)], rO4 hl_x G2 trivial (by rw [(hA4 q (by omega)).2.2, eD1, upd2_eq]) ⟨⟨p, d, hp, rfl, hd1, hd2, rfl, ea4⟩, agr_S hA4 hS1 hm8 hk8 hL.2.2.2.1 hrn⟩⟩ dX7_wouldCome_42
    · skip
      refine V_aload_n h 30 0 rfl dX7_wouldCome_29 rfl ?_
      refine V_iconst h 31 (v := 2) (by decide) dX7_wouldCome_30 rfl ?_
      refine CVI h 34 (As := [.int 2]) (q_no hmS 2) rfl hmS qL_X7_31 qI_X7_no qS_X7_no qZ_X7 qC_X7_no hd_X7_no ⟨Nat.le_of_ble_eq_true rfl, Nat.le_of_ble_eq_true rfl⟩ (Nat.le_of_ble_eq_true rfl) rfl rfl dX7_wouldCome_31 (Nat.le_of_ble_eq_true rfl) (Nat.le_of_ble_eq_true rfl) (fun r5 D5 hq5 => ?_)
      obtain ⟨eD5, erD5⟩ := hq5
      rw [erD5]
      exact V_iret h rfl hQ (Nat.le_of_ble_eq_true rfl) (Nat.le_of_ble_eq_true rfl) ⟨Nat.le_refl _, rfl, fun _ _ => rfl, fun _ _ _ => rfl, _, rfl, lo, hL, fun a _ ha => by rw [eD5, eD1, upd2_ra (by omega), upd2_ra (by omega)], rO2 hl_x (tm_n hv_t c26) (by rw [eD5, upd2_eq]) (rSim_q hS hm8 hk8 hL.2.2.2.1 hqr (fun a ha => by rw [eD5, eD1, upd2_ra ha, upd2_ra ha]))⟩ dX7_wouldCome_34
  · skip
    have nl_x := lv_n hv_v c10
    refine V_aload_n h 14 0 rfl dX7_wouldCome_13 rfl ?_
    refine V_iconst h 15 (v := 1) (by decide) dX7_wouldCome_14 rfl ?_
    refine CVI h 18 (As := [.int 1]) (q_no hmS 1) rfl hmS qL_X7_31 qI_X7_no qS_X7_no qZ_X7 qC_X7_no hd_X7_no ⟨Nat.le_of_ble_eq_true rfl, Nat.le_of_ble_eq_true rfl⟩ (Nat.le_of_ble_eq_true rfl) rfl rfl dX7_wouldCome_15 (Nat.le_of_ble_eq_true rfl) (Nat.le_of_ble_eq_true rfl) (fun r6 D6 hq6 => ?_)
    obtain ⟨eD6, erD6⟩ := hq6
    rw [erD6]
    exact V_iret h rfl hQ (Nat.le_of_ble_eq_true rfl) (Nat.le_of_ble_eq_true rfl) ⟨Nat.le_refl _, rfl, fun _ _ => rfl, fun _ _ _ => rfl, _, rfl, lo, hL, fun a _ ha => by rw [eD6, eD1, upd2_ra (by omega), upd2_ra (by omega)], rO1 nl_x (by rw [eD6, upd2_eq]) (rSim_q hS hm8 hk8 hL.2.2.2.1 hqr (fun a ha => by rw [eD6, eD1, upd2_ra ha, upd2_ra ha]))⟩ dX7_wouldCome_18

set_option maxRecDepth 100000 in
set_option maxHeartbeats 4000000 in
theorem q_bestDig {κ : mKp} {n : Nat} {sh : mSh} {P : mPt} {D : mDt} {E : mEt} {q r : Nat} {lo : Nat → Nat} (hmS : sh q = some (.inl 7)) (hmP : P q 1 = some r) (hqr : q < r) (hL : rLay r lo sh P) {o L e m k : Nat} {ρ : Nat → Nat} {V : mDt} {t1 t2 t3 : Int32} (hS : rSim o L e ρ m k V r lo t1 t2 t3 D) (hI : cI o L e ρ m k V) (hrn : r + 32 ≤ n) (hz : ∀ i, e ≤ i → i < 10 → ∀ j, 1 ≤ j → j < 15 → V (o + 6 + i) j = 0) {dd : Nat} (hG : gX o L ρ m k V dd) (hdd : dd < 2 ^ 29) (hlen : ∃ l, l ≤ 90 ∧ V (o + 1) 1 = nI l) {o2 : Nat} (x w : Int32) {F : Nat → Int32} (hF : (wP x 0 99 ∧ wP w 1 35) → ∀ d, 1 ≤ d → d ≤ 35 → w = nI d → digOk o o2 L ρ m k x d V F 21) : mMet κ yX7_bestDig cX7_bestDig 3 (Option.some Jvm.ClassFile.FieldType.int) { frames := 6, cells := 672, slots := 5019, locals := 146 } [.ref q, .int x, .int w] n sh P D E (qP n sh P D E q r (fun ans lo' D' => rOut 1 2 True (wP x 0 99 ∧ wP w 1 35) True (D' q 0) ((ans = (digB F (V (o + 1) 1) 21).1) ∧ rSim o L e ρ m k V r lo' t1 t2 t3 D') (rSim o L e ρ m k V r lo' t1 t2 t3 D'))) := by
  refine mMet_of (by decide) (Nat.le_of_ble_eq_true rfl) ?_
  intro Γ Q hQ h hin
  have h : mOk Γ κ RX7 cX7_bestDig 3 (Option.some Jvm.ClassFile.FieldType.int) { frames := 6, cells := 672, slots := 5019, locals := 146 } := h
  have hW := hI.1
  have hinj := hI.2.2.2.2.1
  have hρ : ∀ p, p < L → ρ p < 10 := fun p hp => (hW.1.2.2 p hp).1
  have hL10 := hW.1.2.1
  have hm8 := hW.2.2.2.1.1
  have hk8 := hW.2.2.2.2.2.1
  show mV Γ Q 0 0 n sh P D E [(0, .ref q), (1, .int x), (2, .int w)] [] 0
  refine V_aload_n h 1 0 rfl dX7_bestDig_0 rfl ?_
  refine V_iconst h 2 (v := 0) (by decide) dX7_bestDig_1 rfl ?_
  refine p_X7_16 h 5 hmS dX7_bestDig_2 rfl ?_
  obtain ⟨D1, eD1⟩ : ∃ zz, zz = upd2 D q 0 0 := ⟨_, rfl⟩
  rw [← eD1]
  have hS1 := rSim_q (D' := D1) hS hm8 hk8 hL.2.2.2.1 hqr (fun a ha => by rw [eD1, upd2_ra ha])
  refine V_iload_n h 6 1 rfl dX7_bestDig_5 rfl ?_
  refine V_iload_n h 7 2 rfl dX7_bestDig_6 rfl ?_
  refine V_bipush h 9 (v := 35) (by decide) dX7_bestDig_7 rfl ?_
  refine CSI h 12 (As := [.int x, .int w, .int 35]) (q_isTime x w 35) qL_X7_106 qT_X7_isTime qZ_X7 qC_X7_isTime hd_X7_isTime ⟨Nat.le_of_ble_eq_true rfl, Nat.le_of_ble_eq_true rfl⟩ (Nat.le_of_ble_eq_true rfl) rfl rfl dX7_bestDig_9 (Nat.le_of_ble_eq_true rfl) (Nat.le_of_ble_eq_true rfl) (fun r2 D2 hq2 => ?_)
  rw [hq2.1]
  have hv_t := hq2.2
  refine V_if_ne h 21 15 dX7_bestDig_12 (by decide) rfl (fun c12 => ?_) (fun c12 => ?_)
  · skip
    have G2 := tm_y hv_t c12
    have hw2 := G2.2
    obtain ⟨d, hd1, hd2, ew⟩ := wP_N (a := 1) (b := 35) hw2 (by decide) (by decide)
    have hF2 := hF G2 d hd1 hd2 ew
    subst ew
    refine V_aload_n h 22 0 rfl dX7_bestDig_21 rfl ?_
    refine V_iload_n h 23 1 rfl dX7_bestDig_22 rfl ?_
    refine V_iload_n h 24 2 rfl dX7_bestDig_23 rfl ?_
    refine V_callV h 27 (rm := { frames := 5, cells := 672, slots := 5019, locals := 119 }) (As := [.int x, .int (nI d)]) (q_digNow hmS hmP hqr hL hS1 hI hrn hz hG hdd hlen x (d := d) (by omega) hF2) rfl hmS qL_X7_156 qI_X7_digNow qS_X7_digNow qZ_X7 qC_X7_digNow hd_X7_digNow ⟨Nat.le_of_ble_eq_true rfl, Nat.le_of_ble_eq_true rfl⟩ (Nat.le_of_ble_eq_true rfl) rfl rfl dX7_bestDig_24 ⟨(Nat.le_of_ble_eq_true rfl), (Nat.le_of_ble_eq_true rfl)⟩ (fun v3 n3 S3 P3 D3 E3 hq3 => ?_)
    obtain ⟨hn3, q43, hA3, an3, q53, ea3⟩ := hq3
    subst q53
    have q4z3 := q43.symm
    subst q4z3
    exact V_iret h rfl hQ (Nat.le_of_ble_eq_true rfl) (Nat.le_of_ble_eq_true rfl) ⟨hn3, rfl, fun a ha => (hA3 a ha).1, fun a ha _ => (hA3 a ha).2.1, _, rfl, lo, agr_L hA3 hL hrn, fun a ha h2 => by rw [(hA3 a ha).2.2, eD1, upd2_ra (by omega)], rO4 trivial G2 trivial (by rw [(hA3 q (by omega)).2.2, eD1, upd2_eq]) ⟨ea3, agr_S hA3 hS1 hm8 hk8 hL.2.2.2.1 hrn⟩⟩ dX7_bestDig_27
  · skip
    refine V_aload_n h 16 0 rfl dX7_bestDig_15 rfl ?_
    refine V_iconst h 17 (v := 1) (by decide) dX7_bestDig_16 rfl ?_
    refine CVI h 20 (As := [.int 1]) (q_no hmS 1) rfl hmS qL_X7_31 qI_X7_no qS_X7_no qZ_X7 qC_X7_no hd_X7_no ⟨Nat.le_of_ble_eq_true rfl, Nat.le_of_ble_eq_true rfl⟩ (Nat.le_of_ble_eq_true rfl) rfl rfl dX7_bestDig_17 (Nat.le_of_ble_eq_true rfl) (Nat.le_of_ble_eq_true rfl) (fun r4 D4 hq4 => ?_)
    obtain ⟨eD4, erD4⟩ := hq4
    rw [erD4]
    exact V_iret h rfl hQ (Nat.le_of_ble_eq_true rfl) (Nat.le_of_ble_eq_true rfl) ⟨Nat.le_refl _, rfl, fun _ _ => rfl, fun _ _ _ => rfl, _, rfl, lo, hL, fun a _ ha => by rw [eD4, eD1, upd2_ra (by omega), upd2_ra (by omega)], rO2 trivial (tm_n hv_t c12) (by rw [eD4, upd2_eq]) (rSim_q hS hm8 hk8 hL.2.2.2.1 hqr (fun a ha => by rw [eD4, eD1, upd2_ra ha, upd2_ra ha]))⟩ dX7_bestDig_20

set_option maxRecDepth 100000 in
set_option maxHeartbeats 4000000 in
theorem q_pumpTakes {κ : mKp} {n : Nat} {sh : mSh} {P : mPt} {D : mDt} {E : mEt} {q r : Nat} {lo : Nat → Nat} (hmS : sh q = some (.inl 7)) (hmP : P q 1 = some r) (hqr : q < r) (hL : rLay r lo sh P) {o L e m k : Nat} {ρ : Nat → Nat} {V : mDt} {t1 t2 t3 : Int32} (hS : rSim o L e ρ m k V r lo t1 t2 t3 D) (hI : cI o L e ρ m k V) (hrn : r + 32 ≤ n) (hz : ∀ i, e ≤ i → i < 10 → ∀ j, 1 ≤ j → j < 15 → V (o + 6 + i) j = 0) {dd : Nat} (hG : gX o L ρ m k V dd) (hdd : dd < 2 ^ 29) {o2 : Nat} {V1 V2 : mDt} (z x w : Int32) (hl : (wP z 0 20 ∧ wP x 0 99 ∧ wP w 1 70) → lkV o o2 L ρ m k V V1 ∧ lkV o o2 L ρ m k V V2) : mMet κ yX7_pumpTakes cX7_pumpTakes 4 (Option.some Jvm.ClassFile.FieldType.int) { frames := 6, cells := 64, slots := 478, locals := 143 } [.ref q, .int z, .int x, .int w] n sh P D E (qP n sh P D E q r (fun ans lo' D' => rOut 1 2 True (wP z 0 20 ∧ wP x 0 99 ∧ wP w 1 70) True (D' q 0) ((∃ d, 1 ≤ d ∧ d ≤ 70 ∧ w = nI d ∧ ans = daysS o2 ρ L x (V1, m, k) d - daysS o2 ρ L x (upd2 V2 (o2 + 1) 3 z, m, k) d) ∧ rSim o L e ρ m k V r lo' t1 t2 t3 D') (rSim o L e ρ m k V r lo' t1 t2 t3 D'))) := by
  refine mMet_of (by decide) (Nat.le_of_ble_eq_true rfl) ?_
  intro Γ Q hQ h hin
  have h : mOk Γ κ RX7 cX7_pumpTakes 4 (Option.some Jvm.ClassFile.FieldType.int) { frames := 6, cells := 64, slots := 478, locals := 143 } := h
  have hW := hI.1
  have hinj := hI.2.2.2.2.1
  have hρ : ∀ p, p < L → ρ p < 10 := fun p hp => (hW.1.2.2 p hp).1
  have hL10 := hW.1.2.1
  have hm8 := hW.2.2.2.1.1
  have hk8 := hW.2.2.2.2.2.1
  show mV Γ Q 0 0 n sh P D E [(0, .ref q), (1, .int z), (2, .int x), (3, .int w)] [] 0
  refine V_aload_n h 1 0 rfl dX7_pumpTakes_0 rfl ?_
  refine V_iconst h 2 (v := 0) (by decide) dX7_pumpTakes_1 rfl ?_
  refine p_X7_16 h 5 hmS dX7_pumpTakes_2 rfl ?_
  obtain ⟨D1, eD1⟩ : ∃ zz, zz = upd2 D q 0 0 := ⟨_, rfl⟩
  rw [← eD1]
  have hS1 := rSim_q (D' := D1) hS hm8 hk8 hL.2.2.2.1 hqr (fun a ha => by rw [eD1, upd2_ra ha])
  refine V_iload_n h 6 1 rfl dX7_pumpTakes_5 rfl ?_
  refine V_iconst h 7 (v := 0) (by decide) dX7_pumpTakes_6 rfl ?_
  refine V_bipush h 9 (v := 20) (by decide) dX7_pumpTakes_7 rfl ?_
  refine CSI h 12 (As := [.int z, .int 0, .int 20]) (q_in z 0 20) qL_X7_23 qT_X7_in qZ_X7 qC_X7_in hd_X7_in ⟨Nat.le_of_ble_eq_true rfl, Nat.le_of_ble_eq_true rfl⟩ (Nat.le_of_ble_eq_true rfl) rfl rfl dX7_pumpTakes_9 (Nat.le_of_ble_eq_true rfl) (Nat.le_of_ble_eq_true rfl) (fun r2 D2 hq2 => ?_)
  rw [hq2.1, hq2.2]
  refine V_if_eq h 25 15 dX7_pumpTakes_12 (by decide) rfl (fun c12 => ?_) (fun c12 => ?_)
  · skip
    refine V_aload_n h 26 0 rfl dX7_pumpTakes_25 rfl ?_
    refine V_iconst h 27 (v := 1) (by decide) dX7_pumpTakes_26 rfl ?_
    refine CVI h 30 (As := [.int 1]) (q_no hmS 1) rfl hmS qL_X7_31 qI_X7_no qS_X7_no qZ_X7 qC_X7_no hd_X7_no ⟨Nat.le_of_ble_eq_true rfl, Nat.le_of_ble_eq_true rfl⟩ (Nat.le_of_ble_eq_true rfl) rfl rfl dX7_pumpTakes_27 (Nat.le_of_ble_eq_true rfl) (Nat.le_of_ble_eq_true rfl) (fun r3 D3 hq3 => ?_)
    obtain ⟨eD3, erD3⟩ := hq3
    rw [erD3]
    exact V_iret h rfl hQ (Nat.le_of_ble_eq_true rfl) (Nat.le_of_ble_eq_true rfl) ⟨Nat.le_refl _, rfl, fun _ _ => rfl, fun _ _ _ => rfl, _, rfl, lo, hL, fun a _ ha => by rw [eD3, eD1, upd2_ra (by omega), upd2_ra (by omega)], rO2 trivial (fun q9 => wI_0 c12 q9.1) (by rw [eD3, upd2_eq]) (rSim_q hS hm8 hk8 hL.2.2.2.1 hqr (fun a ha => by rw [eD3, eD1, upd2_ra ha, upd2_ra ha]))⟩ dX7_pumpTakes_30
  · skip
    refine V_iload_n h 16 2 rfl dX7_pumpTakes_15 rfl ?_
    refine V_iload_n h 17 3 rfl dX7_pumpTakes_16 rfl ?_
    refine V_bipush h 19 (v := 70) (by decide) dX7_pumpTakes_17 rfl ?_
    refine CSI h 22 (As := [.int x, .int w, .int 70]) (q_isTime x w 70) qL_X7_106 qT_X7_isTime qZ_X7 qC_X7_isTime hd_X7_isTime ⟨Nat.le_of_ble_eq_true rfl, Nat.le_of_ble_eq_true rfl⟩ (Nat.le_of_ble_eq_true rfl) rfl rfl dX7_pumpTakes_19 (Nat.le_of_ble_eq_true rfl) (Nat.le_of_ble_eq_true rfl) (fun r4 D4 hq4 => ?_)
    rw [hq4.1]
    have hv_t := hq4.2
    refine V_if_ne h 31 25 dX7_pumpTakes_22 (by decide) rfl (fun c22 => ?_) (fun c22 => ?_)
    · skip
      have G2 : wP z 0 20 ∧ wP x 0 99 ∧ wP w 1 70 := ⟨wI_1 c12, (tm_y hv_t c22).1, (tm_y hv_t c22).2⟩
      obtain ⟨hl1, hl2⟩ := hl G2
      have hw2 := G2.2.2
      obtain ⟨d, hd1, hd2, ew⟩ := wP_N (a := 1) (b := 70) hw2 (by decide) (by decide)
      subst ew
      refine V_aload_n h 32 0 rfl dX7_pumpTakes_31 rfl ?_
      refine V_iload_n h 33 1 rfl dX7_pumpTakes_32 rfl ?_
      refine V_iload_n h 34 2 rfl dX7_pumpTakes_33 rfl ?_
      refine V_iload_n h 35 3 rfl dX7_pumpTakes_34 rfl ?_
      refine V_callV h 38 (rm := { frames := 5, cells := 64, slots := 478, locals := 119 }) (As := [.int z, .int x, .int (nI d)]) (q_takesNow hmS hmP hqr hL hS1 hI hrn hz hG hdd hl1 hl2 z x (d := d) (by omega)) rfl hmS qL_X7_159 qI_X7_takesNow qS_X7_takesNow qZ_X7 qC_X7_takesNow hd_X7_takesNow ⟨Nat.le_of_ble_eq_true rfl, Nat.le_of_ble_eq_true rfl⟩ (Nat.le_of_ble_eq_true rfl) rfl rfl dX7_pumpTakes_35 ⟨(Nat.le_of_ble_eq_true rfl), (Nat.le_of_ble_eq_true rfl)⟩ (fun v5 n5 S5 P5 D5 E5 hq5 => ?_)
      obtain ⟨hn5, q45, hA5, an5, q55, ea5⟩ := hq5
      subst q55
      have q4z5 := q45.symm
      subst q4z5
      exact V_iret h rfl hQ (Nat.le_of_ble_eq_true rfl) (Nat.le_of_ble_eq_true rfl) ⟨hn5, rfl, fun a ha => (hA5 a ha).1, fun a ha _ => (hA5 a ha).2.1, _, rfl, lo, agr_L hA5 hL hrn, fun a ha h2 => by rw [(hA5 a ha).2.2, eD1, upd2_ra (by omega)], rO4 trivial G2 trivial (by rw [(hA5 q (by omega)).2.2, eD1, upd2_eq]) ⟨⟨d, hd1, hd2, rfl, ea5⟩, agr_S hA5 hS1 hm8 hk8 hL.2.2.2.1 hrn⟩⟩ dX7_pumpTakes_38
    · skip
      refine V_aload_n h 26 0 rfl dX7_pumpTakes_25 rfl ?_
      refine V_iconst h 27 (v := 1) (by decide) dX7_pumpTakes_26 rfl ?_
      refine CVI h 30 (As := [.int 1]) (q_no hmS 1) rfl hmS qL_X7_31 qI_X7_no qS_X7_no qZ_X7 qC_X7_no hd_X7_no ⟨Nat.le_of_ble_eq_true rfl, Nat.le_of_ble_eq_true rfl⟩ (Nat.le_of_ble_eq_true rfl) rfl rfl dX7_pumpTakes_27 (Nat.le_of_ble_eq_true rfl) (Nat.le_of_ble_eq_true rfl) (fun r6 D6 hq6 => ?_)
      obtain ⟨eD6, erD6⟩ := hq6
      rw [erD6]
      exact V_iret h rfl hQ (Nat.le_of_ble_eq_true rfl) (Nat.le_of_ble_eq_true rfl) ⟨Nat.le_refl _, rfl, fun _ _ => rfl, fun _ _ _ => rfl, _, rfl, lo, hL, fun a _ ha => by rw [eD6, eD1, upd2_ra (by omega), upd2_ra (by omega)], rO2 trivial (fun q9 => tm_n hv_t c22 q9.2) (by rw [eD6, upd2_eq]) (rSim_q hS hm8 hk8 hL.2.2.2.1 hqr (fun a ha => by rw [eD6, eD1, upd2_ra ha, upd2_ra ha]))⟩ dX7_pumpTakes_30

set_option maxRecDepth 100000 in
set_option maxHeartbeats 4000000 in
theorem q_wouldReap {κ : mKp} {n : Nat} {sh : mSh} {P : mPt} {D : mDt} {E : mEt} {q r : Nat} {lo : Nat → Nat} (hmS : sh q = some (.inl 7)) (hmP : P q 1 = some r) (hqr : q < r) (hL : rLay r lo sh P) {o L e m k : Nat} {ρ : Nat → Nat} {V : mDt} {t1 t2 t3 : Int32} (hS : rSim o L e ρ m k V r lo t1 t2 t3 D) (hI : cI o L e ρ m k V) (hrn : r + 32 ≤ n) (hz : ∀ i, e ≤ i → i < 10 → ∀ j, 1 ≤ j → j < 15 → V (o + 6 + i) j = 0) {dd : Nat} (hG : gX o L ρ m k V dd) (hdd : dd < 2 ^ 29) {o3 : Nat} {V3 : mDt} (v x : Int32) (hl : livP L ρ v → wP x 0 99 → lkV o o3 L ρ m k V V3) : mMet κ yX7_wouldReap cX7_wouldReap 3 (Option.some Jvm.ClassFile.FieldType.int) { frames := 5, cells := 32, slots := 239, locals := 119 } [.ref q, .int v, .int x] n sh P D E (qP n sh P D E q r (fun ans lo' D' => rOut 2 3 (livP L ρ v) (wP x 0 99) True (D' q 0) ((∃ p, p < L ∧ v = nI (ρ p) ∧ ans = (daysD o3 ρ L x (V3, m, k) (harvN dd)).1 (o3 + 6 + ρ p) 14) ∧ rSim o L e ρ m k V r lo' t1 t2 t3 D') (rSim o L e ρ m k V r lo' t1 t2 t3 D'))) := by
  refine mMet_of (by decide) (Nat.le_of_ble_eq_true rfl) ?_
  intro Γ Q hQ h hin
  have h : mOk Γ κ RX7 cX7_wouldReap 3 (Option.some Jvm.ClassFile.FieldType.int) { frames := 5, cells := 32, slots := 239, locals := 119 } := h
  have hW := hI.1
  have hinj := hI.2.2.2.2.1
  have hρ : ∀ p, p < L → ρ p < 10 := fun p hp => (hW.1.2.2 p hp).1
  have hL10 := hW.1.2.1
  have hm8 := hW.2.2.2.1.1
  have hk8 := hW.2.2.2.2.2.1
  show mV Γ Q 0 0 n sh P D E [(0, .ref q), (1, .int v), (2, .int x)] [] 0
  refine V_aload_n h 1 0 rfl dX7_wouldReap_0 rfl ?_
  refine V_iconst h 2 (v := 0) (by decide) dX7_wouldReap_1 rfl ?_
  refine p_X7_16 h 5 hmS dX7_wouldReap_2 rfl ?_
  obtain ⟨D1, eD1⟩ : ∃ zz, zz = upd2 D q 0 0 := ⟨_, rfl⟩
  rw [← eD1]
  have hS1 := rSim_q (D' := D1) hS hm8 hk8 hL.2.2.2.1 hqr (fun a ha => by rw [eD1, upd2_ra ha])
  refine V_aload_n h 6 0 rfl dX7_wouldReap_5 rfl ?_
  refine V_iload_n h 7 1 rfl dX7_wouldReap_6 rfl ?_
  refine CVI h 10 (As := [.int v]) (q_lives hmS hmP hqr hL hS1 hI v) rfl hmS qL_X7_56 qI_X7_lives qS_X7_lives qZ_X7 qC_X7_lives hd_X7_lives ⟨Nat.le_of_ble_eq_true rfl, Nat.le_of_ble_eq_true rfl⟩ (Nat.le_of_ble_eq_true rfl) rfl rfl dX7_wouldReap_7 (Nat.le_of_ble_eq_true rfl) (Nat.le_of_ble_eq_true rfl) (fun r2 D2 hq2 => ?_)
  rw [hq2.1]
  have hv_v := hq2.2
  refine V_if_ne h 19 13 dX7_wouldReap_10 (by decide) rfl (fun c10 => ?_) (fun c10 => ?_)
  · skip
    have hl_x := lv_y hv_v c10
    refine V_iload_n h 20 2 rfl dX7_wouldReap_19 rfl ?_
    refine V_iconst h 21 (v := 0) (by decide) dX7_wouldReap_20 rfl ?_
    refine V_bipush h 23 (v := 99) (by decide) dX7_wouldReap_21 rfl ?_
    refine CSI h 26 (As := [.int x, .int 0, .int 99]) (q_in x 0 99) qL_X7_23 qT_X7_in qZ_X7 qC_X7_in hd_X7_in ⟨Nat.le_of_ble_eq_true rfl, Nat.le_of_ble_eq_true rfl⟩ (Nat.le_of_ble_eq_true rfl) rfl rfl dX7_wouldReap_23 (Nat.le_of_ble_eq_true rfl) (Nat.le_of_ble_eq_true rfl) (fun r3 D3 hq3 => ?_)
    rw [hq3.1, hq3.2]
    refine V_if_ne h 35 29 dX7_wouldReap_26 (by decide) rfl (fun c26 => ?_) (fun c26 => ?_)
    · skip
      have G2 := wI_1 c26
      have hl2 := hl hl_x G2
      have hl_x2 := hl_x
      obtain ⟨p, hp, ex⟩ := hl_x2
      have hp10 := hρ p hp
      subst ex
      refine V_aload_n h 36 0 rfl dX7_wouldReap_35 rfl ?_
      refine V_iload_n h 37 1 rfl dX7_wouldReap_36 rfl ?_
      refine V_iload_n h 38 2 rfl dX7_wouldReap_37 rfl ?_
      refine V_callV h 41 (rm := { frames := 4, cells := 32, slots := 239, locals := 95 }) (As := [.int (nI (ρ p)), .int x]) (q_reapNow hmS hmP hqr hL hS1 hI hrn hz hG hdd hl2 hp x) rfl hmS qL_X7_165 qI_X7_reapNow qS_X7_reapNow qZ_X7 qC_X7_reapNow hd_X7_reapNow ⟨Nat.le_of_ble_eq_true rfl, Nat.le_of_ble_eq_true rfl⟩ (Nat.le_of_ble_eq_true rfl) rfl rfl dX7_wouldReap_38 ⟨(Nat.le_of_ble_eq_true rfl), (Nat.le_of_ble_eq_true rfl)⟩ (fun v4 n4 S4 P4 D4 E4 hq4 => ?_)
      obtain ⟨hn4, q44, hA4, an4, q54, ea4⟩ := hq4
      subst q54
      have q4z4 := q44.symm
      subst q4z4
      exact V_iret h rfl hQ (Nat.le_of_ble_eq_true rfl) (Nat.le_of_ble_eq_true rfl) ⟨hn4, rfl, fun a ha => (hA4 a ha).1, fun a ha _ => (hA4 a ha).2.1, _, rfl, lo, agr_L hA4 hL hrn, fun a ha h2 => by rw [(hA4 a ha).2.2, eD1, upd2_ra (by omega)], rO4 hl_x G2 trivial (by rw [(hA4 q (by omega)).2.2, eD1, upd2_eq]) ⟨⟨p, hp, rfl, ea4⟩, agr_S hA4 hS1 hm8 hk8 hL.2.2.2.1 hrn⟩⟩ dX7_wouldReap_41
    · skip
      refine V_aload_n h 30 0 rfl dX7_wouldReap_29 rfl ?_
      refine V_iconst h 31 (v := 2) (by decide) dX7_wouldReap_30 rfl ?_
      refine CVI h 34 (As := [.int 2]) (q_no hmS 2) rfl hmS qL_X7_31 qI_X7_no qS_X7_no qZ_X7 qC_X7_no hd_X7_no ⟨Nat.le_of_ble_eq_true rfl, Nat.le_of_ble_eq_true rfl⟩ (Nat.le_of_ble_eq_true rfl) rfl rfl dX7_wouldReap_31 (Nat.le_of_ble_eq_true rfl) (Nat.le_of_ble_eq_true rfl) (fun r5 D5 hq5 => ?_)
      obtain ⟨eD5, erD5⟩ := hq5
      rw [erD5]
      exact V_iret h rfl hQ (Nat.le_of_ble_eq_true rfl) (Nat.le_of_ble_eq_true rfl) ⟨Nat.le_refl _, rfl, fun _ _ => rfl, fun _ _ _ => rfl, _, rfl, lo, hL, fun a _ ha => by rw [eD5, eD1, upd2_ra (by omega), upd2_ra (by omega)], rO2 hl_x (wI_0 c26) (by rw [eD5, upd2_eq]) (rSim_q hS hm8 hk8 hL.2.2.2.1 hqr (fun a ha => by rw [eD5, eD1, upd2_ra ha, upd2_ra ha]))⟩ dX7_wouldReap_34
  · skip
    have nl_x := lv_n hv_v c10
    refine V_aload_n h 14 0 rfl dX7_wouldReap_13 rfl ?_
    refine V_iconst h 15 (v := 1) (by decide) dX7_wouldReap_14 rfl ?_
    refine CVI h 18 (As := [.int 1]) (q_no hmS 1) rfl hmS qL_X7_31 qI_X7_no qS_X7_no qZ_X7 qC_X7_no hd_X7_no ⟨Nat.le_of_ble_eq_true rfl, Nat.le_of_ble_eq_true rfl⟩ (Nat.le_of_ble_eq_true rfl) rfl rfl dX7_wouldReap_15 (Nat.le_of_ble_eq_true rfl) (Nat.le_of_ble_eq_true rfl) (fun r6 D6 hq6 => ?_)
    obtain ⟨eD6, erD6⟩ := hq6
    rw [erD6]
    exact V_iret h rfl hQ (Nat.le_of_ble_eq_true rfl) (Nat.le_of_ble_eq_true rfl) ⟨Nat.le_refl _, rfl, fun _ _ => rfl, fun _ _ _ => rfl, _, rfl, lo, hL, fun a _ ha => by rw [eD6, eD1, upd2_ra (by omega), upd2_ra (by omega)], rO1 nl_x (by rw [eD6, upd2_eq]) (rSim_q hS hm8 hk8 hL.2.2.2.1 hqr (fun a ha => by rw [eD6, eD1, upd2_ra ha, upd2_ra ha]))⟩ dX7_wouldReap_18

theorem nI_le0 {L : Nat} (hL : L ≤ 10) (h : ¬ nI L = 0) : ¬ nI L ≤ 0 := by
  rcases Nat.eq_zero_or_pos L with q | q
  · subst q; exact absurd rfl h
  · exact nI_nle q (by omega)

set_option maxRecDepth 100000 in
set_option maxHeartbeats 4000000 in
theorem q_meanMoist {κ : mKp} {n : Nat} {sh : mSh} {P : mPt} {D : mDt} {E : mEt} {q r : Nat} {lo : Nat → Nat} (hmS : sh q = some (.inl 7)) (hmP : P q 1 = some r) (hqr : q < r) (hL : rLay r lo sh P) {o L e m k : Nat} {ρ : Nat → Nat} {V : mDt} {t1 t2 t3 : Int32} (hS : rSim o L e ρ m k V r lo t1 t2 t3 D) (hI : cI o L e ρ m k V) (hM : ∀ i, i < 10 → ∃ v, v ≤ 99 ∧ V (o + 6 + i) 6 = nI v) : mFnD κ yX7_meanMoist cX7_meanMoist 3 (Option.some Jvm.ClassFile.FieldType.double) 1 21 [.ref q] n sh P D E (fun ans D' => D' = upd2 D q 0 0 ∧ ans = if nI L ≤ 0 then FP.dconst0 else FP.ddiv (FP.i2d (rsum (fun p => V (o + 6 + ρ p) 6) L)) (FP.i2d (nI L))) := by
  refine mMet_of (by decide) (Nat.le_of_ble_eq_true rfl) ?_
  intro Γ Q hQ h hin
  have h : mOk Γ κ RX7 cX7_meanMoist 3 (Option.some Jvm.ClassFile.FieldType.double) { frames := 1, cells := 0, slots := 0, locals := 21 } := h
  have hW := hI.1
  have hinj := hI.2.2.2.2.1
  have hρ : ∀ p, p < L → ρ p < 10 := fun p hp => (hW.1.2.2 p hp).1
  have hL10 := hW.1.2.1
  have hm8 := hW.2.2.2.1.1
  have hk8 := hW.2.2.2.2.2.1
  show mV Γ Q 0 0 n sh P D E [(0, .ref q)] [] 0
  refine V_aload_n h 1 0 rfl dX7_meanMoist_0 rfl ?_
  refine V_iconst h 2 (v := 0) (by decide) dX7_meanMoist_1 rfl ?_
  refine p_X7_16 h 5 hmS dX7_meanMoist_2 rfl ?_
  obtain ⟨D1, eD1⟩ : ∃ zz, zz = upd2 D q 0 0 := ⟨_, rfl⟩
  rw [← eD1]
  have hS1 := rSim_q (D' := D1) hS hm8 hk8 hL.2.2.2.1 hqr (fun a ha => by rw [eD1, upd2_ra ha])
  refine V_iconst h 6 (v := 0) (by decide) dX7_meanMoist_5 rfl ?_
  refine V_istore_n h 7 [(1, .int 0), (0, .ref q)] (by decide) rfl dX7_meanMoist_6 rfl ?_
  refine V_iconst h 8 (v := 0) (by decide) dX7_meanMoist_7 rfl ?_
  refine V_istore_n h 9 [(2, .int 0), (1, .int 0), (0, .ref q)] (by decide) rfl dX7_meanMoist_8 rfl ?_
  have LP9 : ∀ (kk : Nat) (i : Nat) (x1 x2 : Int32), (i ≤ L) → (x1 = rsum (fun p => V (o + 6 + ρ p) 6) i) → (x2 = nI i) → L - i < kk → mV Γ Q 0 0 n sh P D1 E [(0, .ref q), (1, .int x1), (2, .int x2)] [] 9 := by
    intro kk
    induction kk with
    | zero =>
      intro i x1 x2 _ _ _ hms
      exact absurd hms (Nat.not_lt_zero _)
    | succ kk ih =>
      intro i x1 x2 hi e1 e2 hms
      subst e2
      refine V_iload_n h 10 2 rfl dX7_meanMoist_9 rfl ?_
      refine V_aload_n h 11 0 rfl dX7_meanMoist_10 rfl ?_
      refine g_X7_10 h 14 (b := r) hmS hmP dX7_meanMoist_11 rfl ?_
      refine g_X7_53 h 17 (R_s0 hL) dX7_meanMoist_14 rfl ?_
      refine V_top (y := nI L) (by rw [eD1, upd2_nk (by decide)]; exact hS.2.2.2.2.1.2.1) ?_
      refine V_icmp_ge h 44 20 dX7_meanMoist_17 (by decide) rfl (fun c17 => ?_) (fun c17 => ?_)
      · skip
        have hex : i = L := by have := mGe c17 (by omega) (by omega); omega
        rw [hex] at e1
        subst e1
        refine V_aload_n h 45 0 rfl dX7_meanMoist_44 rfl ?_
        refine g_X7_10 h 48 (b := r) hmS hmP dX7_meanMoist_45 rfl ?_
        refine g_X7_53 h 51 (R_s0 hL) dX7_meanMoist_48 rfl ?_
        refine V_top (y := nI L) (by rw [eD1, upd2_nk (by decide)]; exact hS.2.2.2.2.1.2.1) ?_
        refine V_if_ne h 58 54 dX7_meanMoist_51 (by decide) rfl (fun c51 => ?_) (fun c51 => ?_)
        · skip
          refine V_iload_n h 59 1 rfl dX7_meanMoist_58 rfl ?_
          refine V_i2d h 60 dX7_meanMoist_59 rfl ?_
          refine V_aload_n h 61 0 rfl dX7_meanMoist_60 rfl ?_
          refine g_X7_10 h 64 (b := r) hmS hmP dX7_meanMoist_61 rfl ?_
          refine g_X7_53 h 67 (R_s0 hL) dX7_meanMoist_64 rfl ?_
          refine V_top (y := nI L) (by rw [eD1, upd2_nk (by decide)]; exact hS.2.2.2.2.1.2.1) ?_
          refine V_i2d h 68 dX7_meanMoist_67 rfl ?_
          refine V_ddiv h 69 (mean_ok (F := fun p => V (o + 6 + ρ p) 6) (fun p hp => hM _ (hρ p hp)) hL10 (Nat.pos_of_ne_zero (fun z => by subst z; exact c51 (by decide)))) dX7_meanMoist_68 rfl ?_
          exact V_dret h rfl hQ (Nat.zero_le _) (Nat.zero_le _) ⟨rfl, rfl, rfl, rfl, _, rfl, ⟨eD1, by rw [if_neg (nI_le0 hL10 c51)]⟩⟩ dX7_meanMoist_69
        · skip
          refine V_dconst0 h 55 dX7_meanMoist_54 rfl ?_
          refine V_goto h 69 dX7_meanMoist_55 (by decide) ?_
          exact V_dret h rfl hQ (Nat.zero_le _) (Nat.zero_le _) ⟨rfl, rfl, rfl, rfl, _, rfl, ⟨eD1, by rw [if_pos (by rw [c51]; decide)]⟩⟩ dX7_meanMoist_69
      · skip
        have hlt := mLt c17 (by omega)
        refine V_iload_n h 21 1 rfl dX7_meanMoist_20 rfl ?_
        refine V_aload_n h 22 0 rfl dX7_meanMoist_21 rfl ?_
        refine V_aload_n h 23 0 rfl dX7_meanMoist_22 rfl ?_
        refine g_X7_10 h 26 (b := r) hmS hmP dX7_meanMoist_23 rfl ?_
        refine g_X7_49 h 29 (b := r + 12) (R_s0 hL) (R_p1 hL) dX7_meanMoist_26 rfl ?_
        refine V_iload_n h 30 2 rfl dX7_meanMoist_29 rfl ?_
        refine V_iald h 31 i (R_s12 hL) rfl (by omega) (by decide) dX7_meanMoist_30 rfl ?_
        refine V_top (y := nI (ρ i)) (by rw [eD1, upd2_na (by omega)]; exact (hS.2.1 i hlt)) ?_
        refine CVR h 34 (As := [.int (nI (ρ i))]) (q_at hmS hmP hL (t := (ρ i)) (hρ i hlt)) rfl hmS qL_X7_39 qI_X7_at qS_X7_at qZ_X7 qC_X7_at hd_X7_at ⟨Nat.le_of_ble_eq_true rfl, Nat.le_of_ble_eq_true rfl⟩ (Nat.le_of_ble_eq_true rfl) rfl rfl dX7_meanMoist_31 (Nat.zero_le _) (Nat.zero_le _) (fun r2 D2 hq2 => ?_)
        rw [hq2.1, hq2.2]
        refine V_iconst h 35 (v := 4) (by decide) dX7_meanMoist_34 rfl ?_
        refine V_iald h 36 4 (R_sw hL (hρ i hlt)) (by decide) (by decide) (by decide) dX7_meanMoist_35 rfl ?_
        refine V_top (y := V (o + 6 + (ρ i)) 6) (by rw [eD1, upd2_nk (by decide)]; exact (hS.1 (ρ i) (hρ i hlt) 4 (by decide))) ?_
        refine V_iadd h 37 dX7_meanMoist_36 rfl ?_
        refine V_istore_n h 38 [(1, .int (x1 + (V (o + 6 + (ρ i)) 6))), (0, .ref q), (2, .int (nI i))] (by decide) rfl dX7_meanMoist_37 rfl ?_
        refine V_iinc h 41 [(2, .int ((nI i) + 1)), (1, .int (x1 + (V (o + 6 + (ρ i)) 6))), (0, .ref q)] 2 rfl (by rfl) (by decide) rfl dX7_meanMoist_38 rfl ?_
        refine V_goto h 9 dX7_meanMoist_41 (by decide) ?_
        refine V_lsub [(0, .ref q), (1, .int (x1 + (V (o + 6 + (ρ i)) 6))), (2, .int ((nI i) + 1))] [2, 1, 0] rfl ?_
        exact ih (i + 1) _ _ (by omega) (by rw [rsum, ← e1]) (nI_1 i) (by omega)
  refine V_lsub [(0, .ref q), (1, .int 0), (2, .int 0)] [2, 1, 0] rfl ?_
  exact LP9 _ 0 _ _ (Nat.zero_le _) rfl rfl (Nat.lt_succ_self _)
