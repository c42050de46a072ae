/-! the best digging is the best: isBest -/
section ISB
variable {Γ : mC} {κ : mKp} {Q : State → Prop} {kc ks n : Nat} {sh : mSh} {P : mPt} {D : mDt} {E : mEt} {bs Ls : Nat} {xs : Nat → Int32}
theorem tdI_draw {t dr m dd c : Nat} (h : tdI t bs dr m dd c n sh P D) (x : Nat) : tdI t bs x m dd c n sh P (upd2 D t 2 (nI x)) := ⟨h.1, h.2.1, h.2.2.1, h.2.2.2.1, upd2_eq, oI_fr h.2.2.2.2.2 (fun a a1 a2 => upd2_ra (by omega))⟩
theorem tell_blk {t dr : Nat} {V : mDt} (h : isTell t Ls xs dr D) (hD : ∀ a, t + 2 ≤ a → a < t + 22 → V a = D a) : isTell t Ls xs dr V := by
  obtain ⟨h1, F, f1, f2⟩ := h
  exact ⟨gI_blk h1 (fun a a1 a2 => hD a a1 (by omega)), F, f1, fun a a1 a2 => by rw [hD a a1 a2]; exact f2 a a1 a2⟩
theorem tell_draw {t dr : Nat} (h : isTell t Ls xs dr D) (x : Nat) : isTell t Ls xs dr (upd2 D t 2 (nI x)) := tell_blk h (fun a a1 a2 => upd2_ra (by omega))
set_option maxRecDepth 100000 in
set_option maxHeartbeats 4000000 in
theorem isb_head (h : mOk Γ κ RL cL_isBest 11 (Option.some Jvm.ClassFile.FieldType.boolean) { frames := 11, cells := 300, slots := 34000, locals := 200 }) (hX : mOkS Γ bs Ls xs) (hst : κ.1.stackTraces = false) (hLs : Ls < 2 ^ 31) {τ : Nat} (hτ : τ < 1000) {y2 y3 y4 : Int32} (hkc : kc + 99 ≤ 300) (hks : ks + 11290 ≤ 34000) (kk : ∀ n' sh' P' D' E', tdI n bs (41 * τ + 3 + 18 + 1) 0 0 4 n' sh' P' D' → isTell n Ls xs (41 * τ + 3) D' → mV Γ Q (kc + 94) (ks + 11260) n' sh' P' D' E' [(0, .ref bs), (1, .int (nI τ)), (2, .int y2), (3, .int y3), (4, .int y4), (5, .ref n), (6, .int (drwI Ls xs (41 * τ + 3 + 16) (nI 60))), (7, .int (1 + (drwI Ls xs (41 * τ + 3 + 17) (nI 20)))), (8, .int (drwI Ls xs (41 * τ + 3 + 18) (nI 21)))] [] 69) : mV Γ Q kc ks n sh P D E [(0, .ref bs), (1, .int (nI τ)), (2, .int y2), (3, .int y3), (4, .int y4)] [] 13 := by
  refine V_new (ci := 6) (C := RX6) (T := TX6) h 16 (n + 1) (kc + 1) (ks + 18) tyX6 tyX6_ok (by decide) qU_X6 rfl qK_L_9 qN_X6 qZ_X6 (by show kc + 1 ≤ 300; omega) (by show ks + 18 ≤ 34000; omega) dL_isBest_13 rfl rfl rfl rfl ?_
  obtain ⟨S1, eS1⟩ : ∃ zz, zz = updS sh n (.inl 6) := ⟨_, rfl⟩
  rw [← eS1]
  obtain ⟨P1, eP1⟩ : ∃ zz, zz = clrP P n := ⟨_, rfl⟩
  rw [← eP1]
  obtain ⟨D1, eD1⟩ : ∃ zz, zz = clrD D n := ⟨_, rfl⟩
  rw [← eD1]
  have ft1 : S1 n = some (.inl 6) := by rw [eS1]; exact updS_eq
  have fd1 : ∀ j, D1 n j = 0 := fun j => by rw [eD1, clrD_eq]
  refine V_dup h 17 rfl dL_isBest_16 rfl ?_
  refine V_aload_n h 18 0 rfl dL_isBest_17 rfl ?_
  refine V_bipush h 20 (v := 41) (by decide) dL_isBest_18 rfl ?_
  refine V_iload_n h 21 1 rfl dL_isBest_20 rfl ?_
  refine V_imul h 22 dL_isBest_21 rfl ?_
  refine V_iconst h 23 (v := 3) (by decide) dL_isBest_22 rfl ?_
  refine V_iadd h 24 dL_isBest_23 rfl ?_
  refine V_top (y := nI (41 * τ + 3)) (by rw [show (41 : Int32) = nI 41 from rfl, show (3 : Int32) = nI 3 from rfl, nI_mul, nI_add]) ?_
  refine V_callI h 27 (ret2 := none) (rm := { frames := 5, cells := 77, slots := 11082, locals := 102 }) (As := [.ref bs, .int (nI (41 * τ + 3))]) (m_toldInit (bs := bs) (dr := 41 * τ + 3) ft1 fd1) rfl qL_L_11 qI_X6_init qZ_X6 qC_X6_init hd_X6_init ⟨Nat.le_of_ble_eq_true rfl, Nat.le_of_ble_eq_true rfl⟩ (Nat.le_of_ble_eq_true rfl) rfl rfl dL_isBest_24 ⟨by show kc + 78 ≤ 300; omega, by show ks + 11100 ≤ 34000; omega⟩ (fun v2 n2 S2 P2 D2 E2 hq2 => ?_)
  obtain ⟨ev2, eE2, hK2⟩ := hq2
  have en2 : n2 = n + 78 := hK2.1
  rw [ev2, eE2]
  obtain ⟨hT2, hG2⟩ := told_tI hK2
  have ht := hT2.2.2.2.2.1
  refine V_astore h 29 [(5, .ref n), (0, .ref bs), (1, .int (nI τ)), (2, .int y2), (3, .int y3), (4, .int y4)] (by decide) rfl dL_isBest_27 rfl ?_
  refine V_aload h 31 0 rfl dL_isBest_29 rfl ?_
  refine V_iconst h 32 (v := 4) (by decide) dL_isBest_31 rfl ?_
  refine S_callV h hX 35 (rm := { frames := 9, cells := 16, slots := 160, locals := 160 }) (As := [.int 4]) (m_found hst hLs (by omega) hT2 hG2) rfl ht qL_L_18 qI_X6_found qS_X6_found qZ_X6 qC_X6_found hd_X6_found ⟨Nat.le_of_ble_eq_true rfl, Nat.le_of_ble_eq_true rfl⟩ (Nat.le_of_ble_eq_true rfl) rfl rfl dL_isBest_32 ⟨by show kc + 94 ≤ 300; omega, by show ks + 11260 ≤ 34000; omega⟩ (fun v3 n3 S3 P3 D3 E3 hq3 => ?_)
  obtain ⟨ev3, eE3, rw3, hF3⟩ := hq3
  rw [ev3, eE3]
  obtain ⟨hd0, hB0⟩ := found_td (by omega) hF3 hK2.2.2.1.1 hK2.2.2.1.2.1 hK2.2.2.1.2.2
  have ht := hd0.2.1
  refine V_if_ne h 40 38 dL_isBest_35 (by decide) rfl (fun c35 => ?_) (fun c35 => absurd c35 (by decide))
  refine V_aload h 42 0 rfl dL_isBest_40 rfl ?_
  refine V_bipush h 44 (v := 60) (by decide) dL_isBest_42 rfl ?_
  refine SVI h hX 47 (As := [.int (nI 60)]) (c_draw (dr := 41 * τ + 3 + 16) (N := 60) ht hd0.2.2.2.1 hd0.2.2.2.2.1 (by omega) hLs (by decide) (by decide)) rfl ht qL_L_22 qI_X6_draw qS_X6_draw qZ_X6 qC_X6_draw hd_X6_draw ⟨Nat.le_of_ble_eq_true rfl, Nat.le_of_ble_eq_true rfl⟩ (Nat.le_of_ble_eq_true rfl) rfl rfl dL_isBest_44 (by show kc + 94 ≤ 300; omega) (by show ks + 11260 ≤ 34000; omega) (fun r4 D4 hq4 => ?_)
  obtain ⟨eD4, er4⟩ := hq4
  have hd1 := tdI_draw hd0 (41 * τ + 3 + 16 + 1)
  have hB1 := tell_draw hB0 (41 * τ + 3 + 16 + 1)
  rw [← eD4] at hd1 hB1
  rw [er4]
  have ht := hd1.2.1
  refine V_istore h 49 [(6, .int (drwI Ls xs (41 * τ + 3 + 16) (nI 60))), (5, .ref n), (0, .ref bs), (1, .int (nI τ)), (2, .int y2), (3, .int y3), (4, .int y4)] (by decide) rfl dL_isBest_47 rfl ?_
  refine V_iconst h 50 (v := 1) (by decide) dL_isBest_49 rfl ?_
  refine V_aload h 52 1 rfl dL_isBest_50 rfl ?_
  refine V_bipush h 54 (v := 20) (by decide) dL_isBest_52 rfl ?_
  refine SVI h hX 57 (As := [.int (nI 20)]) (c_draw (dr := 41 * τ + 3 + 17) (N := 20) ht hd1.2.2.2.1 hd1.2.2.2.2.1 (by omega) hLs (by decide) (by decide)) rfl ht qL_L_22 qI_X6_draw qS_X6_draw qZ_X6 qC_X6_draw hd_X6_draw ⟨Nat.le_of_ble_eq_true rfl, Nat.le_of_ble_eq_true rfl⟩ (Nat.le_of_ble_eq_true rfl) rfl rfl dL_isBest_54 (by show kc + 94 ≤ 300; omega) (by show ks + 11260 ≤ 34000; omega) (fun r5 D5 hq5 => ?_)
  obtain ⟨eD5, er5⟩ := hq5
  have hd2 := tdI_draw hd1 (41 * τ + 3 + 17 + 1)
  have hB2 := tell_draw hB1 (41 * τ + 3 + 17 + 1)
  rw [← eD5] at hd2 hB2
  rw [er5]
  have ht := hd2.2.1
  refine V_iadd h 58 dL_isBest_57 rfl ?_
  refine V_istore h 60 [(7, .int (1 + (drwI Ls xs (41 * τ + 3 + 17) (nI 20)))), (6, .int (drwI Ls xs (41 * τ + 3 + 16) (nI 60))), (5, .ref n), (0, .ref bs), (1, .int (nI τ)), (2, .int y2), (3, .int y3), (4, .int y4)] (by decide) rfl dL_isBest_58 rfl ?_
  refine V_aload h 62 2 rfl dL_isBest_60 rfl ?_
  refine V_bipush h 64 (v := 21) (by decide) dL_isBest_62 rfl ?_
  refine SVI h hX 67 (As := [.int (nI 21)]) (c_draw (dr := 41 * τ + 3 + 18) (N := 21) ht hd2.2.2.2.1 hd2.2.2.2.2.1 (by omega) hLs (by decide) (by decide)) rfl ht qL_L_22 qI_X6_draw qS_X6_draw qZ_X6 qC_X6_draw hd_X6_draw ⟨Nat.le_of_ble_eq_true rfl, Nat.le_of_ble_eq_true rfl⟩ (Nat.le_of_ble_eq_true rfl) rfl rfl dL_isBest_64 (by show kc + 94 ≤ 300; omega) (by show ks + 11260 ≤ 34000; omega) (fun r6 D6 hq6 => ?_)
  obtain ⟨eD6, er6⟩ := hq6
  have hd3 := tdI_draw hd2 (41 * τ + 3 + 18 + 1)
  have hB3 := tell_draw hB2 (41 * τ + 3 + 18 + 1)
  rw [← eD6] at hd3 hB3
  rw [er6]
  have ht := hd3.2.1
  refine V_istore h 69 [(8, .int (drwI Ls xs (41 * τ + 3 + 18) (nI 21))), (7, .int (1 + (drwI Ls xs (41 * τ + 3 + 17) (nI 20)))), (6, .int (drwI Ls xs (41 * τ + 3 + 16) (nI 60))), (5, .ref n), (0, .ref bs), (1, .int (nI τ)), (2, .int y2), (3, .int y3), (4, .int y4)] (by decide) rfl dL_isBest_67 rfl ?_
  refine V_lsub [(0, .ref bs), (1, .int (nI τ)), (2, .int y2), (3, .int y3), (4, .int y4), (5, .ref n), (6, .int (drwI Ls xs (41 * τ + 3 + 16) (nI 60))), (7, .int (1 + (drwI Ls xs (41 * τ + 3 + 17) (nI 20)))), (8, .int (drwI Ls xs (41 * τ + 3 + 18) (nI 21)))] [4, 5, 6, 7, 8, 3, 2, 1, 0] rfl ?_
  exact kk _ _ _ _ _ hd3 hB3
theorem isb_cmp (h : mOk Γ κ RL cL_isBest 11 (Option.some Jvm.ClassFile.FieldType.boolean) { frames := 11, cells := 300, slots := 34000, locals := 200 }) {τ t : Nat} {y2 y3 y4 y6 y7 y8 y9 y10 : Int32} (h1 : ¬ y2 < y10) (h2 : y10 = y2 → y3 ≤ y9) (kk : mV Γ Q kc ks n sh P D E [(0, .ref bs), (1, .int (nI τ)), (2, .int y2), (3, .int y3), (4, .int y4), (5, .ref t), (6, .int y6), (7, .int y7), (8, .int y8), (9, .int y9), (10, .int y10)] [] 168) : mV Γ Q kc ks n sh P D E [(0, .ref bs), (1, .int (nI τ)), (2, .int y2), (3, .int y3), (4, .int y4), (5, .ref t), (6, .int y6), (7, .int y7), (8, .int y8), (9, .int y9), (10, .int y10)] [] 148 := by
  refine V_iload h 150 10 rfl dL_isBest_148 rfl ?_
  refine V_iload_n h 151 2 rfl dL_isBest_150 rfl ?_
  refine V_icmp_gt h 166 154 dL_isBest_151 (by decide) rfl (fun c => absurd c h1) (fun _ => ?_)
  refine V_iload h 156 10 rfl dL_isBest_154 rfl ?_
  refine V_iload_n h 157 2 rfl dL_isBest_156 rfl ?_
  refine V_icmp_ne h 168 160 dL_isBest_157 (by decide) rfl (fun _ => kk) (fun c157 => ?_)
  refine V_iload h 162 9 rfl dL_isBest_160 rfl ?_
  refine V_iload_n h 163 3 rfl dL_isBest_162 rfl ?_
  exact V_icmp_ge h 168 166 dL_isBest_163 (by decide) rfl (fun _ => kk) (fun c => absurd (h2 c157) c)
theorem pay_out {o L a : Nat} {ρ : Nat → Nat} {x : Int32} (h : o + 16 ≤ a) (hρ : ∀ p, p < L → ρ p < 10) (hL : 0 < L := by omega) : payD o ρ L x D a = D a := by
  have := hρ 0 hL
  rw [payD, upd2_ra (by omega), mapD_row (by omega) hρ]
set_option maxRecDepth 100000 in
set_option maxHeartbeats 4000000 in
theorem isb_tail (h : mOk Γ κ RL cL_isBest 11 (Option.some Jvm.ClassFile.FieldType.boolean) { frames := 11, cells := 300, slots := 34000, locals := 200 }) (hX : mOkS Γ bs Ls xs) (hst : κ.1.stackTraces = false) (hLs : Ls < 2 ^ 31) {τ t d q dr : Nat} {x y2 y3 y4 y8 : Int32} (hd : tdI t bs dr 0 0 4 n sh P D) (hB : isTell t Ls xs (41 * τ + 3) D) (hd1 : 1 ≤ d) (hd2 : d ≤ 20) (hq : q ≤ 20) (hx : wP x 0 99) (hkc : kc + 4 ≤ 300) (hks : ks + 24 ≤ 34000) (kk : ∀ D', mV Γ Q (kc + 4) (ks + 24) n sh P D' E [(0, .ref bs), (1, .int (nI τ)), (2, .int y2), (3, .int y3), (4, .int y4), (5, .ref t), (6, .int x), (7, .int (nI d)), (8, .int y8), (9, .int (nI q)), (10, .int (gF t d x D q))] [] 140) : mV Γ Q kc ks n sh P D E [(0, .ref bs), (1, .int (nI τ)), (2, .int y2), (3, .int y3), (4, .int y4), (5, .ref t), (6, .int x), (7, .int (nI d)), (8, .int y8), (9, .int (nI q))] [] 110 := by
  have ht := hd.2.1
  have hp0 := hd.2.2.1
  have hO := hd.2.2.2.2.2
  have hB1 := hO.2.1.1
  refine V_iload h 112 9 rfl dL_isBest_110 rfl ?_
  refine V_if_le h 126 115 dL_isBest_112 (by decide) rfl (fun c112 => ?_) (fun c112 => ?_)
  · have hq0 : q = 0 := by
      rcases Nat.eq_zero_or_pos q with z | z
      · exact z
      · exact absurd c112 (nI_nle z (by omega))
    subst hq0
    refine V_aload h 128 5 rfl dL_isBest_126 rfl ?_
    refine g_L_14 h 131 (b := t + 1) ht hp0 dL_isBest_128 rfl ?_
    refine V_iload h 133 6 rfl dL_isBest_131 rfl ?_
    refine V_iload h 135 7 rfl dL_isBest_133 rfl ?_
    refine NVI h hX (kc + 2) (ks + 12) 138 (As := [.int x, .int (nI d)]) (o_pass hst hO (d := d) hd1 (by omega) (by omega) hx) rfl hB1 qL_L_71 qI_X5_pass qS_X5_pass qZ_X5 qC_X5_pass hd_X5_pass ⟨Nat.le_of_ble_eq_true rfl, Nat.le_of_ble_eq_true rfl⟩ (Nat.le_of_ble_eq_true rfl) rfl rfl dL_isBest_135 ⟨by show kc + 2 ≤ 300; omega, by show ks + 12 ≤ 34000; omega⟩ rfl rfl (fun X9 hk => hk) (fun r1 D1 hq1 => ?_)
    obtain ⟨hr, hD⟩ := hq1
    have e9 : r1 = gF t d x D 0 := by rw [hr]; exact gF_0 hB
    rw [e9]
    refine V_istore h 140 [(10, .int (gF t d x D 0)), (0, .ref bs), (1, .int (nI τ)), (2, .int y2), (3, .int y3), (4, .int y4), (5, .ref t), (6, .int x), (7, .int (nI d)), (8, .int y8), (9, .int (nI 0))] (by decide) rfl dL_isBest_138 rfl ?_
    refine V_lsub [(0, .ref bs), (1, .int (nI τ)), (2, .int y2), (3, .int y3), (4, .int y4), (5, .ref t), (6, .int x), (7, .int (nI d)), (8, .int y8), (9, .int (nI 0)), (10, .int (gF t d x D 0))] [1, 2, 3, 4, 5, 6, 7, 8, 9, 10, 0] rfl ?_
    exact V_widen _ _ (by omega) (by omega) (kk _)
  · have hq1 : 1 ≤ q := by
      rcases Nat.eq_zero_or_pos q with z | z
      · subst z; exact absurd (show nI 0 ≤ 0 by decide) c112
      · exact z
    obtain ⟨el, -⟩ := tell_len hB
    have hl : D (t + 2 + 1) 1 + nI q ≤ 90 := by rw [el, show (40 : Int32) = nI 40 from rfl, nI_add, show (90 : Int32) = nI 90 from rfl]; exact nI_le (by omega) (by decide)
    have hxq : wP (nI q) 1 80 := wP_n (a := 1) (b := 80) hq1 (by omega) (by decide)
    refine V_aload h 117 5 rfl dL_isBest_115 rfl ?_
    refine g_L_14 h 120 (b := t + 1) ht hp0 dL_isBest_117 rfl ?_
    refine V_iload h 122 9 rfl dL_isBest_120 rfl ?_
    refine NVI h hX (kc + 2) (ks + 12) 125 (As := [.int (nI q)]) (o_dig hst hO hxq hl (tell_pos hB)) rfl hB1 qL_L_78 qI_X5_dig qS_X5_dig qZ_X5 qC_X5_dig hd_X5_dig ⟨Nat.le_of_ble_eq_true rfl, Nat.le_of_ble_eq_true rfl⟩ (Nat.le_of_ble_eq_true rfl) rfl rfl dL_isBest_122 ⟨by show kc + 2 ≤ 300; omega, by show ks + 12 ≤ 34000; omega⟩ rfl rfl (fun X9 hk => hk) (fun r2 D2 hq2 => ?_)
    have hG2 := gI_dig hB.1 (by omega) hxq hl (tell_pos hB)
    have hDg := hq2
    rw [← hDg] at hG2
    have hO2 : oI t 0 0 5 n sh P D2 := oI_tell hO hG2 (fun a a1 a2 => by rw [hDg, upd2_ra (by omega), pay_out (by omega) (fun p hp => (hO.2.2.1.1.1.1.2.2 p hp).1)])
    refine V_pop h 126 rfl dL_isBest_125 rfl ?_
    refine V_aload h 128 5 rfl dL_isBest_126 rfl ?_
    refine g_L_14 h 131 (b := t + 1) ht hp0 dL_isBest_128 rfl ?_
    refine V_iload h 133 6 rfl dL_isBest_131 rfl ?_
    refine V_iload h 135 7 rfl dL_isBest_133 rfl ?_
    refine NVI h hX (kc + 4) (ks + 24) 138 (As := [.int x, .int (nI d)]) (o_pass hst hO2 (d := d) hd1 (by omega) (by omega) hx) rfl hB1 qL_L_71 qI_X5_pass qS_X5_pass qZ_X5 qC_X5_pass hd_X5_pass ⟨Nat.le_of_ble_eq_true rfl, Nat.le_of_ble_eq_true rfl⟩ (Nat.le_of_ble_eq_true rfl) rfl rfl dL_isBest_135 ⟨by show kc + 4 ≤ 300; omega, by show ks + 24 ≤ 34000; omega⟩ rfl rfl (fun X9 hk => hk) (fun r3 D3 hq3 => ?_)
    obtain ⟨hr, hD⟩ := hq3
    have e9 : r3 = gF t d x D q := by rw [hr]; exact gF_dug hB hDg hG2
    rw [e9]
    refine V_istore h 140 [(10, .int (gF t d x D q)), (0, .ref bs), (1, .int (nI τ)), (2, .int y2), (3, .int y3), (4, .int y4), (5, .ref t), (6, .int x), (7, .int (nI d)), (8, .int y8), (9, .int (nI q))] (by decide) rfl dL_isBest_138 rfl ?_
    refine V_lsub [(0, .ref bs), (1, .int (nI τ)), (2, .int y2), (3, .int y3), (4, .int y4), (5, .ref t), (6, .int x), (7, .int (nI d)), (8, .int y8), (9, .int (nI q)), (10, .int (gF t d x D q))] [1, 2, 3, 4, 5, 6, 7, 8, 9, 10, 0] rfl ?_
    exact kk _
end ISB
