theorem lk_cW {o o2 L : Nat} {ρ : Nat → Nat} {m k : Nat} {V V2 : mDt} (h : cW o L ρ m k V) (hl : lkV o o2 L ρ m k V V2) : cW o2 L ρ m k V2 := by
  obtain ⟨l1, l2, l3, l4, l5, l6, l7, l8, l9, l10⟩ := hl
  refine ⟨⟨l2, h.1.2.1, fun p hp => ⟨(h.1.2.2 p hp).1, l4 p hp⟩⟩, fun i hi => (l5 i hi).1, l6, ⟨h.2.2.2.1.1, fun i hi => ?_⟩, l8, ⟨h.2.2.2.2.2.1, fun i hi => ?_⟩⟩
  · have := h.2.2.2.1.2 i hi
    rw [← l7 (i * 4 + 0) (by omega), ← l7 (i * 4 + 1) (by omega)] at this
    exact this
  · have := h.2.2.2.2.2.2 i hi
    rw [← l9 (i * 4 + 0) (by omega), ← l9 (i * 4 + 1) (by omega)] at this
    exact this
theorem lk_gX {o o2 L : Nat} {ρ : Nat → Nat} {m k dd : Nat} {V V2 : mDt} (h : gX o L ρ m k V dd) (hl : lkV o o2 L ρ m k V V2) : gX o2 L ρ m k V2 dd := by
  have hW := lk_cW h.1 hl
  obtain ⟨-, hinj, hfl, hto, hcy, hpa, hd⟩ := h
  obtain ⟨l1, l2, l3, l4, l5, l6, l7, l8, l9, l10⟩ := hl
  refine ⟨hW, hinj, fun i hi => ?_, fun i hi => ?_, fun i hi => ?_, fun i hi => ?_, ?_⟩
  · rw [(l5 i hi).2 11 (by decide) (by decide)]; exact hfl i hi
  · rw [l7 _ (by omega)]; exact hto i hi
  · rw [l7 _ (by omega)]; exact hcy i hi
  · rw [(l5 i hi).2 4 (by decide) (by decide)]; exact hpa i hi
  · rw [l10 4 (by decide) (by decide)]; exact hd
theorem gX_ch {o L : Nat} {ρ : Nat → Nat} {m k dd : Nat} {V : mDt} {j : Nat} {v : Int32} (h : gX o L ρ m k V dd) : gX o L ρ m k (upd2 V (o + 1) j v) dd := by
  have hr : ∀ a, a ≠ o + 1 → upd2 V (o + 1) j v a = V a := fun a ha => upd2_ra ha
  obtain ⟨hW, hinj, hfl, hto, hcy, hpa, hd⟩ := h
  refine ⟨lk_days hW, hinj, fun i hi => ?_, fun i hi => ?_, fun i hi => ?_, fun i hi => ?_, ?_⟩
  · rw [hr _ (by omega)]; exact hfl i hi
  · rw [hr _ (by omega)]; exact hto i hi
  · rw [hr _ (by omega)]; exact hcy i hi
  · rw [hr _ (by omega)]; exact hpa i hi
  · rw [hr _ (by omega)]; exact hd
theorem agr_run {n n0 : Nat} {sh sh' : mSh} {P P' P2 : mPt} {D D' D2 : mDt} (h : agr n0 sh P D sh' P' D') (hn : n0 ≤ n) (hP : ∀ a, a ≠ n + 13 → P2 a = P' a) (hD : ∀ a, (a < n ∨ n + 32 ≤ a) → D2 a = D' a) : agr n0 sh P D sh' P2 D2 := fun a ha => ⟨(h a ha).1, (hP a (by omega)).trans (h a ha).2.1, (hD a (by omega)).trans (h a ha).2.2⟩
theorem digB_stop {F : Nat → Int32} {len : Int32} (hlen : ∃ l, l ≤ 90 ∧ len = nI l) {i : Nat} (hc : 90 < len + nI i) : ∀ n, i + n ≤ 21 → digB F len (i + n) = digB F len i := by
  intro n
  induction n with
  | zero => intro _; rfl
  | succ n ih =>
    intro hn
    have h2 : 90 < len + nI (i + n) := by
      obtain ⟨l, hl, rfl⟩ := hlen
      rw [nI_add] at hc ⊢
      have := (nI_ltI (a := 90) (b := l + i) (by decide) (by omega)).mp hc
      exact nI_lt (a := 90) (by omega) (by omega)
    rw [← Nat.add_assoc, digB, if_pos h2]
    exact ih (by omega)

set_option maxRecDepth 100000 in
set_option maxHeartbeats 4000000 in
theorem q_comeNow {κ : mKp} {n : Nat} {sh : mSh} {P : mPt} {D : mDt} {E : mEt} {q r : Nat} {lo : Nat → Nat} (hmS : sh q = some (.inl 7)) (hmP : P q 1 = some r) (hqr : q < r) (hL : rLay r lo sh P) {o L e m k : Nat} {ρ : Nat → Nat} {V : mDt} {t1 t2 t3 : Int32} (hS : rSim o L e ρ m k V r lo t1 t2 t3 D) (hI : cI o L e ρ m k V) (hrn : r + 32 ≤ n) (hz : ∀ i, e ≤ i → i < 10 → ∀ j, 1 ≤ j → j < 15 → V (o + 6 + i) j = 0) {dd : Nat} (hG : gX o L ρ m k V dd) (hdd : dd < 2 ^ 29) {o2 : Nat} {V2 : mDt} (hl : lkV o o2 L ρ m k V V2) {p : Nat} (hp : p < L) (x : Int32) {d : Nat} (hd : d < 2 ^ 29) : mMet κ yX7_comeNow cX7_comeNow 5 (Option.some Jvm.ClassFile.FieldType.int) { frames := 5, cells := 32, slots := 239, locals := 119 } [.ref q, .int (nI (ρ p)), .int x, .int (nI d)] n sh P D E (gP n sh P D E (fun ans => ans = (daysD o2 ρ L x (V2, m, k) d).1 (o2 + 6 + ρ p) 13 - V (o + 6 + ρ p) 13)) := by
  refine mMet_of (by decide) (Nat.le_of_ble_eq_true rfl) ?_
  intro Γ Q hQ h hin
  have h : mOk Γ κ RX7 cX7_comeNow 5 (Option.some Jvm.ClassFile.FieldType.int) { frames := 5, cells := 32, slots := 239, locals := 119 } := h
  have hW := hI.1
  have hinj := hI.2.2.2.2.1
  have hρ : ∀ p, p < L → ρ p < 10 := fun p hp => (hW.1.2.2 p hp).1
  have hL10 := hW.1.2.1
  have hm8 := hW.2.2.2.1.1
  have hk8 := hW.2.2.2.2.2.1
  have hp10 := hρ p hp
  have hG2 := lk_gX hG hl
  show mV Γ Q 0 0 n sh P D E [(0, .ref q), (1, .int (nI (ρ p))), (2, .int x), (3, .int (nI d))] [] 0
  refine V_aload_n h 1 0 rfl dX7_comeNow_0 rfl ?_
  refine g_X7_10 h 4 (b := r) hmS hmP dX7_comeNow_1 rfl ?_
  refine V_callV h 7 (rm := { frames := 2, cells := 32, slots := 239, locals := 48 }) (As := []) (r_copy hL hS hm8 hk8 hI.2.2.2.1 (by omega)) rfl (R_s0 hL) qL_X7_145 qI_X6_copy qS_X6_copy qZ_X6 qC_X6_copy hd_X6_copy ⟨Nat.le_of_ble_eq_true rfl, Nat.le_of_ble_eq_true rfl⟩ (Nat.le_of_ble_eq_true rfl) rfl rfl dX7_comeNow_4 ⟨(Nat.le_of_ble_eq_true rfl), (Nat.le_of_ble_eq_true rfl)⟩ (fun v1 n1 S1 P1 D1 E1 hq1 => ?_)
  obtain ⟨q51, q41, q11, hLn1, hSn1, hPn1, hDn1, hCp1⟩ := hq1
  subst q51
  have q4z1 := q41.symm
  subst q4z1
  subst q11
  have hB1 : agr n sh P D S1 P1 D1 := fun a ha => ⟨hSn1 a ha, hPn1 a ha, hDn1 a ha⟩
  have hC1 : rSim o2 L e ρ m k V2 n (fun i => i) _ _ _ D1 := cp_sim hS hI.2.2.2.1 hL10 hm8 hk8 hz hCp1 hl
  refine V_astore h 9 [(4, .ref n), (0, .ref q), (1, .int (nI (ρ p))), (2, .int x), (3, .int (nI d))] (by decide) rfl dX7_comeNow_7 rfl ?_
  refine V_aload h 11 0 rfl dX7_comeNow_9 rfl ?_
  refine V_iload_n h 12 3 rfl dX7_comeNow_11 rfl ?_
  refine V_iload_n h 13 4 rfl dX7_comeNow_12 rfl ?_
  refine V_callV h 16 (rm := { frames := 4, cells := 0, slots := 0, locals := 95 }) (As := [.int x, .int (nI d)]) (r_run hLn1 hC1 (dd := dd) hG2 (by omega) x (dn := d) (by omega)) rfl (R_s0 hLn1) qL_X7_109 qI_X6_run qS_X6_run qZ_X6 qC_X6_run hd_X6_run ⟨Nat.le_of_ble_eq_true rfl, Nat.le_of_ble_eq_true rfl⟩ (Nat.le_of_ble_eq_true rfl) rfl rfl dX7_comeNow_13 ⟨(Nat.le_of_ble_eq_true rfl), (Nat.le_of_ble_eq_true rfl)⟩ (fun v2 n2 S2 P2 D2 E2 hq2 => ?_)
  obtain ⟨q12, q22, q42, an2, q52, ea2, lo2, hL2, hP2, hSG2, hFG2⟩ := hq2
  subst q52
  have q4z2 := q42.symm
  subst q4z2
  subst q12
  subst q22
  have hA2 := agr_run hB1 (by omega) hP2 hFG2
  refine V_pop h 17 rfl dX7_comeNow_16 rfl ?_
  refine V_aload h 19 0 rfl dX7_comeNow_17 rfl ?_
  refine g_X7_27 h 22 (b := n + 1) (R_s0 hL2) (R_p0 hL2) dX7_comeNow_19 rfl ?_
  refine V_iload_n h 23 2 rfl dX7_comeNow_22 rfl ?_
  refine V_aald h 24 (b := n + 2 + (ρ p)) (ρ p) (Or.inr rfl) (R_s1 hL2) rfl hp10 (by decide) (R_pw hL2 hp10) dX7_comeNow_23 rfl ?_
  refine V_bipush h 26 (v := 10) (by decide) dX7_comeNow_24 rfl ?_
  refine V_iald h 27 10 (R_sw hL2 hp10) (by decide) (by decide) (by decide) dX7_comeNow_26 rfl ?_
  refine V_top (y := (daysD o2 ρ L x (V2, m, k) d).1 (o2 + 6 + (ρ p)) 13) (hSG2.1 (ρ p) hp10 10 (by decide)) ?_
  refine V_aload_n h 28 1 rfl dX7_comeNow_27 rfl ?_
  refine V_iload_n h 29 2 rfl dX7_comeNow_28 rfl ?_
  refine CVR h 32 (As := [.int (nI (ρ p))]) (q_at (agr_s hA2 (show q < n by omega) hmS) (agr_p hA2 (show q < n by omega) hmP) (agr_L hA2 hL hrn) (t := (ρ p)) hp10) rfl (agr_s hA2 (show q < n by omega) hmS) qL_X7_39 qI_X7_at qS_X7_at qZ_X7 qC_X7_at hd_X7_at ⟨Nat.le_of_ble_eq_true rfl, Nat.le_of_ble_eq_true rfl⟩ (Nat.le_of_ble_eq_true rfl) rfl rfl dX7_comeNow_29 (Nat.le_of_ble_eq_true rfl) (Nat.le_of_ble_eq_true rfl) (fun r3 D3 hq3 => ?_)
  rw [hq3.1, hq3.2]
  refine V_bipush h 34 (v := 10) (by decide) dX7_comeNow_32 rfl ?_
  refine V_iald h 35 10 (R_sw (agr_L hA2 hL hrn) hp10) (by decide) (by decide) (by decide) dX7_comeNow_34 rfl ?_
  refine V_top (y := V (o + 6 + (ρ p)) 13) (agr_d hA2 (by have := hρ; omega) (hS.1 (ρ p) hp10 10 (by decide))) ?_
  refine V_isub h 36 dX7_comeNow_35 rfl ?_
  exact V_iret h rfl hQ (Nat.le_of_ble_eq_true rfl) (Nat.le_of_ble_eq_true rfl) ⟨by omega, rfl, hA2, _, rfl, rfl⟩ dX7_comeNow_36

set_option maxRecDepth 100000 in
set_option maxHeartbeats 4000000 in
theorem q_takesNow {κ : mKp} {n : Nat} {sh : mSh} {P : mPt} {D : mDt} {E : mEt} {q r : Nat} {lo : Nat → Nat} (hmS : sh q = some (.inl 7)) (hmP : P q 1 = some r) (hqr : q < r) (hL : rLay r lo sh P) {o L e m k : Nat} {ρ : Nat → Nat} {V : mDt} {t1 t2 t3 : Int32} (hS : rSim o L e ρ m k V r lo t1 t2 t3 D) (hI : cI o L e ρ m k V) (hrn : r + 32 ≤ n) (hz : ∀ i, e ≤ i → i < 10 → ∀ j, 1 ≤ j → j < 15 → V (o + 6 + i) j = 0) {dd : Nat} (hG : gX o L ρ m k V dd) (hdd : dd < 2 ^ 29) {o2 : Nat} {V1 V2 : mDt} (hl1 : lkV o o2 L ρ m k V V1) (hl2 : lkV o o2 L ρ m k V V2) (z x : Int32) {d : Nat} (hd : d < 2 ^ 29) : mMet κ yX7_takesNow cX7_takesNow 5 (Option.some Jvm.ClassFile.FieldType.int) { frames := 5, cells := 64, slots := 478, locals := 119 } [.ref q, .int z, .int x, .int (nI d)] n sh P D E (gP n sh P D E (fun ans => ans = daysS o2 ρ L x (V1, m, k) d - daysS o2 ρ L x (upd2 V2 (o2 + 1) 3 z, m, k) d)) := by
  refine mMet_of (by decide) (Nat.le_of_ble_eq_true rfl) ?_
  intro Γ Q hQ h hin
  have h : mOk Γ κ RX7 cX7_takesNow 5 (Option.some Jvm.ClassFile.FieldType.int) { frames := 5, cells := 64, slots := 478, locals := 119 } := h
  have hW := hI.1
  have hinj := hI.2.2.2.2.1
  have hρ : ∀ p, p < L → ρ p < 10 := fun p hp => (hW.1.2.2 p hp).1
  have hL10 := hW.1.2.1
  have hm8 := hW.2.2.2.1.1
  have hk8 := hW.2.2.2.2.2.1
  have hG1 := lk_gX hG hl1
  have hG2 := gX_ch (j := 3) (v := z) (lk_gX hG hl2)
  show mV Γ Q 0 0 n sh P D E [(0, .ref q), (1, .int z), (2, .int x), (3, .int (nI d))] [] 0
  refine V_aload_n h 1 0 rfl dX7_takesNow_0 rfl ?_
  refine g_X7_10 h 4 (b := r) hmS hmP dX7_takesNow_1 rfl ?_
  refine V_callV h 7 (rm := { frames := 2, cells := 32, slots := 239, locals := 48 }) (As := []) (r_copy hL hS hm8 hk8 hI.2.2.2.1 (by omega)) rfl (R_s0 hL) qL_X7_145 qI_X6_copy qS_X6_copy qZ_X6 qC_X6_copy hd_X6_copy ⟨Nat.le_of_ble_eq_true rfl, Nat.le_of_ble_eq_true rfl⟩ (Nat.le_of_ble_eq_true rfl) rfl rfl dX7_takesNow_4 ⟨(Nat.le_of_ble_eq_true rfl), (Nat.le_of_ble_eq_true rfl)⟩ (fun v1 n1 S1 P1 D1 E1 hq1 => ?_)
  obtain ⟨q51, q41, q11, hLn1, hSn1, hPn1, hDn1, hCp1⟩ := hq1
  subst q51
  have q4z1 := q41.symm
  subst q4z1
  subst q11
  have hB1 : agr n sh P D S1 P1 D1 := fun a ha => ⟨hSn1 a ha, hPn1 a ha, hDn1 a ha⟩
  have hC1 : rSim o2 L e ρ m k V2 n (fun i => i) _ _ _ D1 := cp_sim hS hI.2.2.2.1 hL10 hm8 hk8 hz hCp1 hl2
  refine V_astore h 9 [(4, .ref n), (0, .ref q), (1, .int z), (2, .int x), (3, .int (nI d))] (by decide) rfl dX7_takesNow_7 rfl ?_
  refine V_aload h 11 0 rfl dX7_takesNow_9 rfl ?_
  refine V_iload_n h 12 2 rfl dX7_takesNow_11 rfl ?_
  refine p_X7_96 h 15 (R_s0 hLn1) dX7_takesNow_12 rfl ?_
  obtain ⟨D2, eD2⟩ : ∃ zz, zz = upd2 D1 n 13 z := ⟨_, rfl⟩
  rw [← eD2]
  have hSz3 : rSim o2 L e ρ m k (upd2 V2 (o2 + 1) 3 z) n (fun i => i) _ _ _ D2 := rSim_ch hC1 hm8 hk8 (fun _ h => h) (j := 3) (by decide) eD2
  have hAz3 := agr_D hB1 (D2 := D2) (fun a ha => by rw [eD2, upd2_ra (by omega)])
  refine V_aload_n h 16 1 rfl dX7_takesNow_15 rfl ?_
  refine g_X7_10 h 19 (b := r) (agr_s hAz3 (show q < n by omega) hmS) (agr_p hAz3 (show q < n by omega) hmP) dX7_takesNow_16 rfl ?_
  refine V_callV h 22 (rm := { frames := 2, cells := 32, slots := 239, locals := 48 }) (As := []) (r_copy (agr_L hAz3 hL hrn) (agr_S hAz3 hS hm8 hk8 hL.2.2.2.1 hrn) hm8 hk8 hI.2.2.2.1 (by omega)) rfl (R_s0 (agr_L hAz3 hL hrn)) qL_X7_145 qI_X6_copy qS_X6_copy qZ_X6 qC_X6_copy hd_X6_copy ⟨Nat.le_of_ble_eq_true rfl, Nat.le_of_ble_eq_true rfl⟩ (Nat.le_of_ble_eq_true rfl) rfl rfl dX7_takesNow_19 ⟨(Nat.le_of_ble_eq_true rfl), (Nat.le_of_ble_eq_true rfl)⟩ (fun v4 n4 S4 P4 D4 E4 hq4 => ?_)
  obtain ⟨q54, q44, q14, hLn4, hSn4, hPn4, hDn4, hCp4⟩ := hq4
  subst q54
  have q4z4 := q44.symm
  subst q4z4
  subst q14
  have hB4 : agr (n + 32) S1 P1 D2 S4 P4 D4 := fun a ha => ⟨hSn4 a ha, hPn4 a ha, hDn4 a ha⟩
  have hC4 : rSim o2 L e ρ m k V1 (n + 32) (fun i => i) _ _ _ D4 := cp_sim (agr_S hAz3 hS hm8 hk8 hL.2.2.2.1 hrn) hI.2.2.2.1 hL10 hm8 hk8 hz hCp4 hl1
  have hA4 := agr_tr hAz3 (by omega) hB4
  have hLk4_0 := agr_L hB4 hLn1 (by omega)
  have hSk4_0 := agr_S hB4 hSz3 hm8 hk8 (fun _ h => h) (by omega)
  refine V_iload_n h 23 3 rfl dX7_takesNow_22 rfl ?_
  refine V_iload_n h 24 4 rfl dX7_takesNow_23 rfl ?_
  refine V_callV h 27 (rm := { frames := 4, cells := 0, slots := 0, locals := 95 }) (As := [.int x, .int (nI d)]) (r_run hLn4 hC4 (dd := dd) hG1 (by omega) x (dn := d) (by omega)) rfl (R_s0 hLn4) qL_X7_109 qI_X6_run qS_X6_run qZ_X6 qC_X6_run hd_X6_run ⟨Nat.le_of_ble_eq_true rfl, Nat.le_of_ble_eq_true rfl⟩ (Nat.le_of_ble_eq_true rfl) rfl rfl dX7_takesNow_24 ⟨(Nat.le_of_ble_eq_true rfl), (Nat.le_of_ble_eq_true rfl)⟩ (fun v5 n5 S5 P5 D5 E5 hq5 => ?_)
  obtain ⟨q15, q25, q45, an5, q55, ea5, lo5, hL5, hP5, hSG5, hFG5⟩ := hq5
  subst q55
  have q4z5 := q45.symm
  subst q4z5
  subst q15
  subst q25
  have hA5 := agr_run hA4 (by omega) hP5 hFG5
  have hLr5_0 := rLay_of (sh' := S5) (P' := P5) hLk4_0 (fun _ _ _ => rfl) (fun a h1 h2 => hP5 a (by omega))
  have hSr5_0 := rSim_fr (D' := D5) hSk4_0 hm8 hk8 (fun _ h => h) (fun a h1 h2 => hFG5 a (by omega))
  refine V_aload h 29 0 rfl dX7_takesNow_27 rfl ?_
  refine V_iload_n h 30 3 rfl dX7_takesNow_29 rfl ?_
  refine V_iload_n h 31 4 rfl dX7_takesNow_30 rfl ?_
  refine V_callV h 34 (rm := { frames := 4, cells := 0, slots := 0, locals := 95 }) (As := [.int x, .int (nI d)]) (r_run hLr5_0 hSr5_0 (dd := dd) hG2 (by omega) x (dn := d) (by omega)) rfl (R_s0 hLr5_0) qL_X7_109 qI_X6_run qS_X6_run qZ_X6 qC_X6_run hd_X6_run ⟨Nat.le_of_ble_eq_true rfl, Nat.le_of_ble_eq_true rfl⟩ (Nat.le_of_ble_eq_true rfl) rfl rfl dX7_takesNow_31 ⟨(Nat.le_of_ble_eq_true rfl), (Nat.le_of_ble_eq_true rfl)⟩ (fun v6 n6 S6 P6 D6 E6 hq6 => ?_)
  obtain ⟨q16, q26, q46, an6, q56, ea6, lo6, hL6, hP6, hSG6, hFG6⟩ := hq6
  subst q56
  have q4z6 := q46.symm
  subst q4z6
  subst q16
  subst q26
  have hA6 := agr_run hA5 (by omega) hP6 hFG6
  refine V_isub h 35 dX7_takesNow_34 rfl ?_
  exact V_iret h rfl hQ (Nat.le_of_ble_eq_true rfl) (Nat.le_of_ble_eq_true rfl) ⟨by omega, rfl, hA6, _, rfl, by rw [ea5, ea6]⟩ dX7_takesNow_35

set_option maxRecDepth 100000 in
set_option maxHeartbeats 4000000 in
theorem q_digNow {κ : mKp} {n : Nat} {sh : mSh} {P : mPt} {D : mDt} {E : mEt} {q r : Nat} {lo : Nat → Nat} (hmS : sh q = some (.inl 7)) (hmP : P q 1 = some r) (hqr : q < r) (hL : rLay r lo sh P) {o L e m k : Nat} {ρ : Nat → Nat} {V : mDt} {t1 t2 t3 : Int32} (hS : rSim o L e ρ m k V r lo t1 t2 t3 D) (hI : cI o L e ρ m k V) (hrn : r + 32 ≤ n) (hz : ∀ i, e ≤ i → i < 10 → ∀ j, 1 ≤ j → j < 15 → V (o + 6 + i) j = 0) {dd : Nat} (hG : gX o L ρ m k V dd) (hdd : dd < 2 ^ 29) (hlen : ∃ l, l ≤ 90 ∧ V (o + 1) 1 = nI l) {o2 : Nat} (x : Int32) {d : Nat} (hd : d < 2 ^ 29) {F : Nat → Int32} (hF : digOk o o2 L ρ m k x d V F 21) : mMet κ yX7_digNow cX7_digNow 8 (Option.some Jvm.ClassFile.FieldType.int) { frames := 5, cells := 672, slots := 5019, locals := 119 } [.ref q, .int x, .int (nI d)] n sh P D E (gP n sh P D E (fun ans => ans = (digB F (V (o + 1) 1) 21).1)) := by
  refine mMet_of (by decide) (Nat.le_of_ble_eq_true rfl) ?_
  intro Γ Q hQ h hin
  have h : mOk Γ κ RX7 cX7_digNow 8 (Option.some Jvm.ClassFile.FieldType.int) { frames := 5, cells := 672, slots := 5019, locals := 119 } := h
  have hW := hI.1
  have hinj := hI.2.2.2.2.1
  have hρ : ∀ p, p < L → ρ p < 10 := fun p hp => (hW.1.2.2 p hp).1
  have hL10 := hW.1.2.1
  have hm8 := hW.2.2.2.1.1
  have hk8 := hW.2.2.2.2.2.1
  show mV Γ Q 0 0 n sh P D E [(0, .ref q), (1, .int x), (2, .int (nI d))] [] 0
  refine V_iconst h 1 (v := 0) (by decide) dX7_digNow_0 rfl ?_
  refine V_istore_n h 2 [(3, .int 0), (0, .ref q), (1, .int x), (2, .int (nI d))] (by decide) rfl dX7_digNow_1 rfl ?_
  refine V_iconst h 3 (v := (-1)) (by decide) dX7_digNow_2 rfl ?_
  refine V_istore h 5 [(4, .int (-1)), (3, .int 0), (0, .ref q), (1, .int x), (2, .int (nI d))] (by decide) rfl dX7_digNow_3 rfl ?_
  refine V_iconst h 6 (v := 0) (by decide) dX7_digNow_5 rfl ?_
  refine V_istore h 8 [(5, .int 0), (4, .int (-1)), (3, .int 0), (0, .ref q), (1, .int x), (2, .int (nI d))] (by decide) rfl dX7_digNow_6 rfl ?_
  have LP8 : ∀ (kk : Nat) (i : Nat) (x3 x4 x5 : Int32) (nk kv : Nat) (Sk : mSh) (Pk : mPt) (Dk : mDt), (i ≤ 21) → (x3 = (digB F (V (o + 1) 1) i).1) → (x4 = (digB F (V (o + 1) 1) i).2) → (x5 = nI i) → (n ≤ nk) → (kv ≤ i) → (agr n sh P D Sk Pk Dk) → 22 - i < kk → mV Γ Q (kv * 32) (kv * 239) nk Sk Pk Dk E [(0, .ref q), (1, .int x), (2, .int (nI d)), (3, .int x3), (4, .int x4), (5, .int x5)] [] 8 := by
    intro kk
    induction kk with
    | zero =>
      intro i x3 x4 x5 nk kv Sk Pk Dk _ _ _ _ _ _ _ hms
      exact absurd hms (Nat.not_lt_zero _)
    | succ kk ih =>
      intro i x3 x4 x5 nk kv Sk Pk Dk hi e3 e4 e5 hnk hkv hAk hms
      subst e5
      refine V_iload h 10 5 rfl dX7_digNow_8 rfl ?_
      refine V_bipush h 12 (v := 20) (by decide) dX7_digNow_10 rfl ?_
      refine V_icmp_gt h 89 15 dX7_digNow_12 (by decide) rfl (fun c12 => ?_) (fun c12 => ?_)
      · skip
        refine V_iload_n h 90 3 rfl dX7_digNow_89 rfl ?_
        exact V_iret h rfl hQ (by show (kv * 32) ≤ 672; omega) (by show (kv * 239) ≤ 5019; omega) ⟨by omega, rfl, hAk, _, rfl, by rw [e3, show i = 21 by have := (nI_ltI (a := 20) (b := i) (by omega) (by omega)).mp c12; omega]⟩ dX7_digNow_90
      · skip
        have hi21 : i < 21 := Nat.lt_of_not_le (fun z => c12 (nI_lt (a := 20) (b := i) (by omega) (by omega)))
        refine V_aload_n h 16 0 rfl dX7_digNow_15 rfl ?_
        refine g_X7_10 h 19 (b := r) (agr_s hAk (show q < n by omega) hmS) (agr_p hAk (show q < n by omega) hmP) dX7_digNow_16 rfl ?_
        refine g_X7_82 h 22 (R_s0 (agr_L hAk hL hrn)) dX7_digNow_19 rfl ?_
        refine V_top (y := V (o + 1) 1) (agr_d hAk (by omega) hS.2.2.2.2.1.2.2.2.2.2.2.1) ?_
        refine V_iload h 24 5 rfl dX7_digNow_22 rfl ?_
        refine V_iadd h 25 dX7_digNow_24 rfl ?_
        refine V_bipush h 27 (v := 90) (by decide) dX7_digNow_25 rfl ?_
        refine V_icmp_gt h 89 30 dX7_digNow_27 (by decide) rfl (fun c27 => ?_) (fun c27 => ?_)
        · skip
          refine V_iload_n h 90 3 rfl dX7_digNow_89 rfl ?_
          exact V_iret h rfl hQ (by show (kv * 32) ≤ 672; omega) (by show (kv * 239) ≤ 5019; omega) ⟨by omega, rfl, hAk, _, rfl, by rw [e3, ← digB_stop (F := F) hlen c27 (21 - i) (by omega), show i + (21 - i) = 21 by omega]⟩ dX7_digNow_90
        · skip
          have c27n := c27
          obtain ⟨V2, hl, hFi⟩ := hF i hi21 c27
          have hG2 := gX_ch (j := 1) (v := V2 (o2 + 1) 1 + nI i) (lk_gX hG hl)
          refine V_aload_n h 31 0 rfl dX7_digNow_30 rfl ?_
          refine g_X7_10 h 34 (b := r) (agr_s hAk (show q < n by omega) hmS) (agr_p hAk (show q < n by omega) hmP) dX7_digNow_31 rfl ?_
          refine V_callV h 37 (rm := { frames := 2, cells := 32, slots := 239, locals := 48 }) (As := []) (r_copy (agr_L hAk hL hrn) (agr_S hAk hS hm8 hk8 hL.2.2.2.1 hrn) hm8 hk8 hI.2.2.2.1 (by omega)) rfl (R_s0 (agr_L hAk hL hrn)) qL_X7_145 qI_X6_copy qS_X6_copy qZ_X6 qC_X6_copy hd_X6_copy ⟨Nat.le_of_ble_eq_true rfl, Nat.le_of_ble_eq_true rfl⟩ (Nat.le_of_ble_eq_true rfl) rfl rfl dX7_digNow_34 ⟨(by show kv * 32 + 32 ≤ 672; omega), (by show kv * 239 + 239 ≤ 5019; omega)⟩ (fun v1 n1 S1 P1 D1 E1 hq1 => ?_)
          obtain ⟨q51, q41, q11, hLn1, hSn1, hPn1, hDn1, hCp1⟩ := hq1
          subst q51
          have q4z1 := q41.symm
          subst q4z1
          subst q11
          have hB1 : agr nk Sk Pk Dk S1 P1 D1 := fun a ha => ⟨hSn1 a ha, hPn1 a ha, hDn1 a ha⟩
          have hC1 : rSim o2 L e ρ m k V2 nk (fun i => i) _ _ _ D1 := cp_sim (agr_S hAk hS hm8 hk8 hL.2.2.2.1 hrn) hI.2.2.2.1 hL10 hm8 hk8 hz hCp1 hl
          have hA1 := agr_tr hAk (by omega) hB1
          refine V_astore h 39 [(6, .ref nk), (0, .ref q), (1, .int x), (2, .int (nI d)), (3, .int x3), (4, .int x4), (5, .int (nI i))] (by decide) rfl dX7_digNow_37 rfl ?_
          refine V_aload h 41 0 rfl dX7_digNow_39 rfl ?_
          refine V_dup h 42 rfl dX7_digNow_41 rfl ?_
          refine g_X7_82 h 45 (R_s0 hLn1) dX7_digNow_42 rfl ?_
          refine V_top (y := V2 (o2 + 1) 1) (hC1.2.2.2.2.1.2.2.2.2.2.2.1) ?_
          refine V_iload h 47 6 rfl dX7_digNow_45 rfl ?_
          refine V_iadd h 48 dX7_digNow_47 rfl ?_
          refine p_X7_82 h 51 (R_s0 hLn1) dX7_digNow_48 rfl ?_
          obtain ⟨D2, eD2⟩ : ∃ zz, zz = upd2 D1 nk 11 ((V2 (o2 + 1) 1) + (nI i)) := ⟨_, rfl⟩
          rw [← eD2]
          have hSz3 : rSim o2 L e ρ m k (upd2 V2 (o2 + 1) 1 ((V2 (o2 + 1) 1) + (nI i))) nk (fun i => i) _ _ _ D2 := rSim_ch hC1 hm8 hk8 (fun _ h => h) (j := 1) (by decide) eD2
          have hAz3 := agr_D hA1 (D2 := D2) (fun a ha => by rw [eD2, upd2_ra (by omega)])
          refine V_aload h 53 0 rfl dX7_digNow_51 rfl ?_
          refine V_iload_n h 54 2 rfl dX7_digNow_53 rfl ?_
          refine V_iload_n h 55 3 rfl dX7_digNow_54 rfl ?_
          refine V_callV h 58 (rm := { frames := 4, cells := 0, slots := 0, locals := 95 }) (As := [.int x, .int (nI d)]) (r_run hLn1 hSz3 (dd := dd) hG2 (by omega) x (dn := d) (by omega)) rfl (R_s0 hLn1) qL_X7_109 qI_X6_run qS_X6_run qZ_X6 qC_X6_run hd_X6_run ⟨Nat.le_of_ble_eq_true rfl, Nat.le_of_ble_eq_true rfl⟩ (Nat.le_of_ble_eq_true rfl) rfl rfl dX7_digNow_55 ⟨(by show kv * 32 + 32 ≤ 672; omega), (by show kv * 239 + 239 ≤ 5019; omega)⟩ (fun v4 n4 S4 P4 D4 E4 hq4 => ?_)
          obtain ⟨q14, q24, q44, an4, q54, ea4, lo4, hL4, hP4, hSG4, hFG4⟩ := hq4
          subst q54
          have q4z4 := q44.symm
          subst q4z4
          subst q14
          subst q24
          have hA4 := agr_run hAz3 (by omega) hP4 hFG4
          refine V_istore h 60 [(7, .int an4), (6, .ref nk), (0, .ref q), (1, .int x), (2, .int (nI d)), (3, .int x3), (4, .int x4), (5, .int (nI i))] (by decide) rfl dX7_digNow_58 rfl ?_
          have hFe : an4 = F i := by rw [ea4, hFi]
          refine V_iload h 62 0 rfl dX7_digNow_60 rfl ?_
          refine V_iload h 64 6 rfl dX7_digNow_62 rfl ?_
          refine V_icmp_le h 72 67 dX7_digNow_64 (by decide) rfl (fun c64 => ?_) (fun c64 => ?_)
          · skip
            refine V_iload_n h 73 5 rfl dX7_digNow_72 rfl ?_
            refine V_istore_n h 74 [(3, .int x3), (7, .int an4), (6, .ref nk), (0, .ref q), (1, .int x), (2, .int (nI d)), (4, .int x4), (5, .int (nI i))] (by decide) rfl dX7_digNow_73 rfl ?_
            refine V_iload h 76 6 rfl dX7_digNow_74 rfl ?_
            refine V_iload h 78 1 rfl dX7_digNow_76 rfl ?_
            refine V_mmax h 81 qL_X7_153 (Nat.le_of_ble_eq_true rfl) (Nat.le_of_ble_eq_true rfl) (by show kv * 32 + 32 ≤ 672; omega) (by show kv * 239 + 239 ≤ 5019; omega) dX7_digNow_78 rfl ?_
            refine V_istore h 83 [(4, .int (imax x4 an4)), (3, .int x3), (7, .int an4), (6, .ref nk), (0, .ref q), (1, .int x), (2, .int (nI d)), (5, .int (nI i))] (by decide) rfl dX7_digNow_81 rfl ?_
            refine V_iinc h 86 [(5, .int ((nI i) + 1)), (4, .int (imax x4 an4)), (3, .int x3), (7, .int an4), (6, .ref nk), (0, .ref q), (1, .int x), (2, .int (nI d))] 7 rfl (by rfl) (by decide) rfl dX7_digNow_83 rfl ?_
            refine V_goto h 8 dX7_digNow_86 (by decide) ?_
            refine V_lsub [(0, .ref q), (1, .int x), (2, .int (nI d)), (3, .int x3), (4, .int (imax x4 an4)), (5, .int ((nI i) + 1))] [5, 6, 7, 2, 1, 0] rfl ?_
            rw [show kv * 32 + 32 = (kv + 1) * 32 by omega, show kv * 239 + 239 = (kv + 1) * 239 by omega]
            refine ih (i + 1) _ _ _ (nk + 32) (kv + 1) S4 P4 D4 (by omega) (by rw [digB, if_neg c27n, if_pos (by rw [← hFe, ← e4]; exact c64)]; exact e3) (by rw [digB, if_neg c27n, if_pos (by rw [← hFe, ← e4]; exact c64), imax, if_neg (Int32.not_lt.mpr c64)]; exact e4) (nI_1 i) (by omega) (by omega) hA4 (by omega)
          · skip
            refine V_iload h 69 7 rfl dX7_digNow_67 rfl ?_
            refine V_goto h 73 dX7_digNow_69 (by decide) ?_
            refine V_istore_n h 74 [(3, .int (nI i)), (7, .int an4), (6, .ref nk), (0, .ref q), (1, .int x), (2, .int (nI d)), (4, .int x4), (5, .int (nI i))] (by decide) rfl dX7_digNow_73 rfl ?_
            refine V_iload h 76 6 rfl dX7_digNow_74 rfl ?_
            refine V_iload h 78 1 rfl dX7_digNow_76 rfl ?_
            refine V_mmax h 81 qL_X7_153 (Nat.le_of_ble_eq_true rfl) (Nat.le_of_ble_eq_true rfl) (by show kv * 32 + 32 ≤ 672; omega) (by show kv * 239 + 239 ≤ 5019; omega) dX7_digNow_78 rfl ?_
            refine V_istore h 83 [(4, .int (imax x4 an4)), (3, .int (nI i)), (7, .int an4), (6, .ref nk), (0, .ref q), (1, .int x), (2, .int (nI d)), (5, .int (nI i))] (by decide) rfl dX7_digNow_81 rfl ?_
            refine V_iinc h 86 [(5, .int ((nI i) + 1)), (4, .int (imax x4 an4)), (3, .int (nI i)), (7, .int an4), (6, .ref nk), (0, .ref q), (1, .int x), (2, .int (nI d))] 7 rfl (by rfl) (by decide) rfl dX7_digNow_83 rfl ?_
            refine V_goto h 8 dX7_digNow_86 (by decide) ?_
            refine V_lsub [(0, .ref q), (1, .int x), (2, .int (nI d)), (3, .int (nI i)), (4, .int (imax x4 an4)), (5, .int ((nI i) + 1))] [5, 6, 7, 2, 1, 0] rfl ?_
            rw [show kv * 32 + 32 = (kv + 1) * 32 by omega, show kv * 239 + 239 = (kv + 1) * 239 by omega]
            refine ih (i + 1) _ _ _ (nk + 32) (kv + 1) S4 P4 D4 (by omega) (by rw [digB, if_neg c27n, if_neg (by rw [← hFe, ← e4]; exact c64)]) (by rw [digB, if_neg c27n, if_neg (by rw [← hFe, ← e4]; exact c64), imax, if_pos (Int32.not_le.mp c64)]; exact hFe) (nI_1 i) (by omega) (by omega) hA4 (by omega)
  refine V_lsub [(0, .ref q), (1, .int x), (2, .int (nI d)), (3, .int 0), (4, .int (-1)), (5, .int 0)] [3, 4, 5, 2, 1, 0] rfl ?_
  exact LP8 _ 0 _ _ _ n 0 sh P D (Nat.zero_le _) rfl rfl rfl (Nat.le_refl _) (Nat.le_refl _) agr_rfl (Nat.lt_succ_self _)
