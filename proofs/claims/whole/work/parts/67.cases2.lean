set_option maxRecDepth 100000 in
set_option maxHeartbeats 4000000 in
theorem k_of {Γ : mC} {κ : mKp} {Q : State → Prop} (h : mOk Γ κ RL cL_law 9 (Option.some Jvm.ClassFile.FieldType.boolean) { frames := 13, cells := 771262, slots := 6782320, locals := 468 }) (hT : mOkN Γ) (hst : κ.1.stackTraces = false) {bs Ls : Nat} {xs : Nat → Int32} (hX : mScr Γ bs Ls xs) (hLs : Ls < 2 ^ 31) {i : Nat} (hi : i + 5 ≤ Ls) {b cn kc ks n : Nat} {sh : mSh} {P : mPt} {D : mDt} {E : mEt} (hI : lI b cn n sh P D) (hcn : cn ≤ 599) (hkc : kc + 1400 ≤ 771262) (hks : ks + 10600 ≤ 6782320) (kk : ∀ n2 sh2 P2 D2 E2, lI b (cn + 1) n2 sh2 P2 D2 → mV Γ Q (kc + 1400) (ks + 10600) n2 sh2 P2 D2 E2 [(0, .ref bs), (1, .ref b), (2, .ref (b + 61)), (3, .ref (b + 94)), (4, .int (nI i))] [] 1711) : mV Γ Q kc ks n sh P D E [(0, .ref bs), (1, .ref b), (2, .ref (b + 61)), (3, .ref (b + 94)), (4, .int (nI i))] [] 1032 := by
  obtain ⟨L, e, ρ, m, k, dd, lo, hJ⟩ := hI
  obtain ⟨hs, hL, hG, hN2, hN3, hS⟩ := id hJ
  have hcI := hG.1
  have hB := hs.1
  refine V_aload_n h 1033 1 rfl dL_law_1032 rfl ?_
  refine V_aload_n h 1034 0 rfl dL_law_1033 rfl ?_
  refine V_iload h 1036 4 rfl dL_law_1034 rfl ?_
  refine V_iconst h 1037 (v := 1) (by decide) dL_law_1036 rfl ?_
  refine V_iadd h 1038 dL_law_1037 rfl ?_
  refine V_sld h hX 1039 (i + 1) (nI_add (a := i) (b := 1)) (by omega) hLs dL_law_1038 rfl ?_
  refine V_aload_n h 1040 0 rfl dL_law_1039 rfl ?_
  refine V_iload h 1042 4 rfl dL_law_1040 rfl ?_
  refine V_iconst h 1043 (v := 2) (by decide) dL_law_1042 rfl ?_
  refine V_iadd h 1044 dL_law_1043 rfl ?_
  refine V_sld h hX 1045 (i + 2) (nI_add (a := i) (b := 2)) (by omega) hLs dL_law_1044 rfl ?_
  refine V_aload_n h 1046 3 rfl dL_law_1045 rfl ?_
  refine V_callSW h hT 1049 (As := [.ref b, .int (xs (i + 1)), .int (xs (i + 2)), .ref (b + 94)]) (st := []) (l_of hB.1 hs.2.2.2.1 (xs (i + 1)) (xs (i + 2)) (c_of hst hB hcI (xs (i + 1)) (xs (i + 2))) Kx_IA) qL_L_132 qT_L_of qZ_L qW_L_of hd_L_of ⟨Nat.le_of_ble_eq_true rfl, Nat.le_of_ble_eq_true rfl⟩ (Nat.le_of_ble_eq_true rfl) rfl rfl dL_law_1046 ⟨by show kc + 2 ≤ 771262; omega, by show ks + 12 ≤ 6782320; omega⟩ (fun v1 n1 S1 P1 D1 E1 hq1 => ?_)
  obtain ⟨hn1, q2, q3, kd, q5, hA⟩ := hq1
  rw [q2, q3, q5]
  dsimp only at hA
  have hs1 := lSt_up hs hn1
  have h95 := hs1.2.2.2.2
  have fr : fR b D D1 := by
    rcases hA with ⟨-, r, hr, -⟩ | ⟨X, -, -, q, -⟩
    · rw [hr.2.2.1]; exact fR_rfl
    · rw [q]; exact fR_rfl
  have hS1 := lJ_mid hJ (D1 := D1) (fun a ha => fr a (Or.inr (by omega)))
  refine V_istore h 1051 [(5, .int kd), (0, .ref bs), (1, .ref b), (2, .ref (b + 61)), (3, .ref (b + 94)), (4, .int (nI i))] (by decide) rfl dL_law_1049 rfl ?_
  refine V_aload_n h 1052 3 rfl dL_law_1051 rfl ?_
  refine V_aload_n h 1053 1 rfl dL_law_1052 rfl ?_
  refine V_iload h 1055 5 rfl dL_law_1053 rfl ?_
  refine V_iconst h 1056 (v := 1) (by decide) dL_law_1055 rfl ?_
  refine V_iadd h 1057 dL_law_1056 rfl ?_
  refine V_sld h hX 1058 (i + 1) (nI_add (a := i) (b := 1)) (by omega) hLs dL_law_1057 rfl ?_
  refine V_aload_n h 1059 1 rfl dL_law_1058 rfl ?_
  refine V_iload h 1061 5 rfl dL_law_1059 rfl ?_
  refine V_iconst h 1062 (v := 2) (by decide) dL_law_1061 rfl ?_
  refine V_iadd h 1063 dL_law_1062 rfl ?_
  refine V_sld h hX 1064 (i + 2) (nI_add (a := i) (b := 2)) (by omega) hLs dL_law_1063 rfl ?_
  refine CVI h 1067 (As := [.int (xs (i + 1)), .int (xs (i + 2))]) (q_of hs1.2.1 hs1.2.2.1 (by omega) hL hS1 hcI (gI_b0 hG) (xs (i + 1)) (xs (i + 2))) rfl hs1.2.1 qL_L_134 qI_X7_of qS_X7_of qZ_X7 qC_X7_of hd_X7_of ⟨Nat.le_of_ble_eq_true rfl, Nat.le_of_ble_eq_true rfl⟩ (Nat.le_of_ble_eq_true rfl) rfl rfl dL_law_1064 (by show kc + 2 ≤ 771262; omega) (by show ks + 12 ≤ 6782320; omega) (fun ans D2 hq2 => ?_)
  obtain ⟨hR, hD2q⟩ := hq2
  have hn2 : n1 ≤ n1 := Nat.le_refl _
  have hs2 : ∀ a, a < n1 → sh a = sh a := fun _ _ => rfl
  have hP2 : ∀ a, a < n1 → a ≠ b + 62 + 13 → P a = P a := fun _ _ _ => rfl
  have hL2 := hL
  have hD2 : ∀ a, a < n1 → (a < b + 61 ∨ b + 62 + 32 ≤ a) → D2 a = D1 a := fun a _ ha => hD2q a ha
  have hF : kd = D2 (b + 61) 0 ∧ (kd = 0 → E1 (b + 94) 0 = ans.toInt64) ∧ lI b (cn + 1) n1 sh P D2 := by
    rcases hA with ⟨k0, r, res, eE⟩ | ⟨X, hKX, kX, eD, -⟩
    · obtain ⟨t0, ok⟩ := l_ok (⟨res.1, res.2.1, trivial⟩) hR
      obtain ⟨g1, g2, rfl, q, w1, hq, hx, hw1, hw, rr⟩ := res
      obtain ⟨⟨p, w2, hp, hxp, hw2, hw', ra⟩, R⟩ := ok
      have hρp := gI_rho hG p hp
      have hρq := gI_rho hG q hq
      have hpq : p = q := rho_j hG.2.1.2.1 hp hq (nI_j (hxp.symm.trans hx) (by omega) (by omega))
      subst hpq
      have hww : w2 = w1 := nI_j (hw'.symm.trans hw) (by omega) (by omega)
      subst hww
      exact ⟨k0.trans t0.symm, fun _ => by rw [eE, updE_at, rr, ra], lI_next hs1 hn2 hs2 hP2 hL2 hD2 (gI_c hG (Nat.le_succ _)) hN2 hN3 R⟩
    · obtain ⟨e1, ne, same⟩ := l_no (cd := cdIA) (fun _ => by decide) (by first | rfl | decide) (fun z => absurd trivial z) (by decide) (by decide) hKX kX hR
      subst eD
      exact ⟨e1, fun z => absurd z ne, lI_next hs1 hn2 hs2 hP2 hL2 hD2 (gI_c hG (Nat.le_succ _)) hN2 hN3 same⟩
  obtain ⟨hk, hv, hI2⟩ := hF
  have hI2s := hI2
  obtain ⟨_, _, _, _, _, _, _, hJ2, -⟩ := hI2s
  refine V_istore h 1069 [(6, .int ans), (5, .int kd), (0, .ref bs), (1, .ref b), (2, .ref (b + 61)), (3, .ref (b + 94)), (4, .int (nI i))] (by decide) rfl dL_law_1067 rfl ?_
  refine V_aload_n h 1070 4 rfl dL_law_1069 rfl ?_
  refine CVI h 1073 (As := []) (q_thrown hJ2.2.1) rfl hJ2.2.1 qL_L_92 qI_X7_thrown qS_X7_thrown qZ_X7 qC_X7_thrown hd_X7_thrown ⟨Nat.le_of_ble_eq_true rfl, Nat.le_of_ble_eq_true rfl⟩ (Nat.le_of_ble_eq_true rfl) rfl rfl dL_law_1070 (by show kc + 2 + 0 ≤ 771262; omega) (by show ks + 12 + 0 ≤ 6782320; omega) (fun th D3 hq3 => ?_)
  rw [hq3.1, hq3.2]
  refine V_iload h 1075 1 rfl dL_law_1073 rfl ?_
  refine V_icmp_eq h 1080 1078 dL_law_1075 (by decide) rfl (fun _ => ?_) (fun z => absurd hk.symm z)
  refine V_iload h 1082 1 rfl dL_law_1080 rfl ?_
  have hend : mV Γ Q (kc + 2 + 0) (ks + 12 + 0) n1 sh P D2 E1 [(6, .int ans), (5, .int kd), (0, .ref bs), (1, .ref b), (2, .ref (b + 61)), (3, .ref (b + 94)), (4, .int (nI i))] [] 1097 := by
    refine V_goto h 1711 dL_law_1097 (by decide) ?_
    refine V_lsub [(0, .ref bs), (1, .ref b), (2, .ref (b + 61)), (3, .ref (b + 94)), (4, .int (nI i))] [2, 3, 4, 5, 6] rfl ?_
    exact V_widen (kc + 1400) (ks + 10600) (by omega) (by omega) (kk _ _ _ _ _ hI2)
  refine V_if_ne h 1097 1085 dL_law_1082 (by decide) rfl (fun _ => hend) (fun z0 => ?_)
  refine V_aload_n h 1086 5 rfl dL_law_1085 rfl ?_
  refine V_iconst h 1087 (v := 0) (by decide) dL_law_1086 rfl ?_
  refine V_lald h 1088 0 hJ2.2.2.2.1 rfl (by decide) (by decide) dL_law_1087 rfl ?_
  rw [hv z0]
  refine V_iload h 1090 0 rfl dL_law_1088 rfl ?_
  refine V_i2l h 1091 dL_law_1090 rfl ?_
  refine V_lcmp h 1092 dL_law_1091 rfl ?_
  exact V_if_eq h 1097 1095 dL_law_1092 (by decide) rfl (fun _ => hend) (fun z => absurd lg_cmp_0 z)

set_option maxRecDepth 100000 in
set_option maxHeartbeats 4000000 in
theorem k_ofBowl {Γ : mC} {κ : mKp} {Q : State → Prop} (h : mOk Γ κ RL cL_law 9 (Option.some Jvm.ClassFile.FieldType.boolean) { frames := 13, cells := 771262, slots := 6782320, locals := 468 }) (hT : mOkN Γ) (hst : κ.1.stackTraces = false) {bs Ls : Nat} {xs : Nat → Int32} (hX : mScr Γ bs Ls xs) (hLs : Ls < 2 ^ 31) {i : Nat} (hi : i + 5 ≤ Ls) {b cn kc ks n : Nat} {sh : mSh} {P : mPt} {D : mDt} {E : mEt} (hI : lI b cn n sh P D) (hcn : cn ≤ 599) (hkc : kc + 1400 ≤ 771262) (hks : ks + 10600 ≤ 6782320) (kk : ∀ n2 sh2 P2 D2 E2, lI b (cn + 1) n2 sh2 P2 D2 → mV Γ Q (kc + 1400) (ks + 10600) n2 sh2 P2 D2 E2 [(0, .ref bs), (1, .ref b), (2, .ref (b + 61)), (3, .ref (b + 94)), (4, .int (nI i))] [] 1711) : mV Γ Q kc ks n sh P D E [(0, .ref bs), (1, .ref b), (2, .ref (b + 61)), (3, .ref (b + 94)), (4, .int (nI i))] [] 1100 := by
  obtain ⟨L, e, ρ, m, k, dd, lo, hJ⟩ := hI
  obtain ⟨hs, hL, hG, hN2, hN3, hS⟩ := id hJ
  have hcI := hG.1
  have hB := hs.1
  refine V_aload_n h 1101 1 rfl dL_law_1100 rfl ?_
  refine V_aload_n h 1102 0 rfl dL_law_1101 rfl ?_
  refine V_iload h 1104 4 rfl dL_law_1102 rfl ?_
  refine V_iconst h 1105 (v := 1) (by decide) dL_law_1104 rfl ?_
  refine V_iadd h 1106 dL_law_1105 rfl ?_
  refine V_sld h hX 1107 (i + 1) (nI_add (a := i) (b := 1)) (by omega) hLs dL_law_1106 rfl ?_
  refine V_aload_n h 1108 0 rfl dL_law_1107 rfl ?_
  refine V_iload h 1110 4 rfl dL_law_1108 rfl ?_
  refine V_iconst h 1111 (v := 2) (by decide) dL_law_1110 rfl ?_
  refine V_iadd h 1112 dL_law_1111 rfl ?_
  refine V_sld h hX 1113 (i + 2) (nI_add (a := i) (b := 2)) (by omega) hLs dL_law_1112 rfl ?_
  refine V_aload_n h 1114 3 rfl dL_law_1113 rfl ?_
  refine V_callSW h hT 1117 (As := [.ref b, .int (xs (i + 1)), .int (xs (i + 2)), .ref (b + 94)]) (st := []) (l_ofBowl hB.1 hs.2.2.2.1 (xs (i + 1)) (xs (i + 2)) (c_ofBowl hst hB hcI (xs (i + 1)) (xs (i + 2))) Kx_IA) qL_L_135 qT_L_ofBowl qZ_L qW_L_ofBowl hd_L_ofBowl ⟨Nat.le_of_ble_eq_true rfl, Nat.le_of_ble_eq_true rfl⟩ (Nat.le_of_ble_eq_true rfl) rfl rfl dL_law_1114 ⟨by show kc + 2 ≤ 771262; omega, by show ks + 12 ≤ 6782320; omega⟩ (fun v1 n1 S1 P1 D1 E1 hq1 => ?_)
  obtain ⟨hn1, q2, q3, kd, q5, hA⟩ := hq1
  rw [q2, q3, q5]
  dsimp only at hA
  have hs1 := lSt_up hs hn1
  have h95 := hs1.2.2.2.2
  have fr : fR b D D1 := by
    rcases hA with ⟨-, r, hr, -⟩ | ⟨X, -, -, q, -⟩
    · rw [hr.2.2.2]; exact fR_rfl
    · rw [q]; exact fR_rfl
  have hS1 := lJ_mid hJ (D1 := D1) (fun a ha => fr a (Or.inr (by omega)))
  refine V_istore h 1119 [(5, .int kd), (0, .ref bs), (1, .ref b), (2, .ref (b + 61)), (3, .ref (b + 94)), (4, .int (nI i))] (by decide) rfl dL_law_1117 rfl ?_
  refine V_aload_n h 1120 3 rfl dL_law_1119 rfl ?_
  refine V_aload_n h 1121 1 rfl dL_law_1120 rfl ?_
  refine V_iload h 1123 5 rfl dL_law_1121 rfl ?_
  refine V_iconst h 1124 (v := 1) (by decide) dL_law_1123 rfl ?_
  refine V_iadd h 1125 dL_law_1124 rfl ?_
  refine V_sld h hX 1126 (i + 1) (nI_add (a := i) (b := 1)) (by omega) hLs dL_law_1125 rfl ?_
  refine V_aload_n h 1127 1 rfl dL_law_1126 rfl ?_
  refine V_iload h 1129 5 rfl dL_law_1127 rfl ?_
  refine V_iconst h 1130 (v := 2) (by decide) dL_law_1129 rfl ?_
  refine V_iadd h 1131 dL_law_1130 rfl ?_
  refine V_sld h hX 1132 (i + 2) (nI_add (a := i) (b := 2)) (by omega) hLs dL_law_1131 rfl ?_
  refine CVI h 1135 (As := [.int (xs (i + 1)), .int (xs (i + 2))]) (q_ofBowl hs1.2.1 hs1.2.2.1 (by omega) hL hS1 hcI (gI_bw hG) (gI_am hG) (xs (i + 1)) (xs (i + 2))) rfl hs1.2.1 qL_L_137 qI_X7_ofBowl qS_X7_ofBowl qZ_X7 qC_X7_ofBowl hd_X7_ofBowl ⟨Nat.le_of_ble_eq_true rfl, Nat.le_of_ble_eq_true rfl⟩ (Nat.le_of_ble_eq_true rfl) rfl rfl dL_law_1132 (by show kc + 2 ≤ 771262; omega) (by show ks + 12 ≤ 6782320; omega) (fun ans D2 hq2 => ?_)
  obtain ⟨hR, hD2q⟩ := hq2
  have hn2 : n1 ≤ n1 := Nat.le_refl _
  have hs2 : ∀ a, a < n1 → sh a = sh a := fun _ _ => rfl
  have hP2 : ∀ a, a < n1 → a ≠ b + 62 + 13 → P a = P a := fun _ _ _ => rfl
  have hL2 := hL
  have hD2 : ∀ a, a < n1 → (a < b + 61 ∨ b + 62 + 32 ≤ a) → D2 a = D1 a := fun a _ ha => hD2q a ha
  have hF : kd = D2 (b + 61) 0 ∧ (kd = 0 → E1 (b + 94) 0 = ans.toInt64) ∧ lI b (cn + 1) n1 sh P D2 := by
    rcases hA with ⟨k0, r, res, eE⟩ | ⟨X, hKX, kX, eD, -⟩
    · obtain ⟨t0, ok⟩ := l_ok (⟨res.1, res.2.1, trivial⟩) hR
      obtain ⟨g1, g2, rr, rfl⟩ := res
      exact ⟨k0.trans t0.symm, fun _ => by rw [eE, updE_at, rr, ok.1], lI_next hs1 hn2 hs2 hP2 hL2 hD2 (gI_c hG (Nat.le_succ _)) hN2 hN3 ok.2⟩
    · obtain ⟨e1, ne, same⟩ := l_no (cd := cdIA) (fun _ => by decide) (by first | rfl | decide) (fun z => absurd trivial z) (by decide) (by decide) hKX kX hR
      subst eD
      exact ⟨e1, fun z => absurd z ne, lI_next hs1 hn2 hs2 hP2 hL2 hD2 (gI_c hG (Nat.le_succ _)) hN2 hN3 same⟩
  obtain ⟨hk, hv, hI2⟩ := hF
  have hI2s := hI2
  obtain ⟨_, _, _, _, _, _, _, hJ2, -⟩ := hI2s
  refine V_istore h 1137 [(6, .int ans), (5, .int kd), (0, .ref bs), (1, .ref b), (2, .ref (b + 61)), (3, .ref (b + 94)), (4, .int (nI i))] (by decide) rfl dL_law_1135 rfl ?_
  refine V_aload_n h 1138 4 rfl dL_law_1137 rfl ?_
  refine CVI h 1141 (As := []) (q_thrown hJ2.2.1) rfl hJ2.2.1 qL_L_92 qI_X7_thrown qS_X7_thrown qZ_X7 qC_X7_thrown hd_X7_thrown ⟨Nat.le_of_ble_eq_true rfl, Nat.le_of_ble_eq_true rfl⟩ (Nat.le_of_ble_eq_true rfl) rfl rfl dL_law_1138 (by show kc + 2 + 0 ≤ 771262; omega) (by show ks + 12 + 0 ≤ 6782320; omega) (fun th D3 hq3 => ?_)
  rw [hq3.1, hq3.2]
  refine V_iload h 1143 1 rfl dL_law_1141 rfl ?_
  refine V_icmp_eq h 1148 1146 dL_law_1143 (by decide) rfl (fun _ => ?_) (fun z => absurd hk.symm z)
  refine V_iload h 1150 1 rfl dL_law_1148 rfl ?_
  have hend : mV Γ Q (kc + 2 + 0) (ks + 12 + 0) n1 sh P D2 E1 [(6, .int ans), (5, .int kd), (0, .ref bs), (1, .ref b), (2, .ref (b + 61)), (3, .ref (b + 94)), (4, .int (nI i))] [] 1165 := by
    refine V_goto h 1711 dL_law_1165 (by decide) ?_
    refine V_lsub [(0, .ref bs), (1, .ref b), (2, .ref (b + 61)), (3, .ref (b + 94)), (4, .int (nI i))] [2, 3, 4, 5, 6] rfl ?_
    exact V_widen (kc + 1400) (ks + 10600) (by omega) (by omega) (kk _ _ _ _ _ hI2)
  refine V_if_ne h 1165 1153 dL_law_1150 (by decide) rfl (fun _ => hend) (fun z0 => ?_)
  refine V_aload_n h 1154 5 rfl dL_law_1153 rfl ?_
  refine V_iconst h 1155 (v := 0) (by decide) dL_law_1154 rfl ?_
  refine V_lald h 1156 0 hJ2.2.2.2.1 rfl (by decide) (by decide) dL_law_1155 rfl ?_
  rw [hv z0]
  refine V_iload h 1158 0 rfl dL_law_1156 rfl ?_
  refine V_i2l h 1159 dL_law_1158 rfl ?_
  refine V_lcmp h 1160 dL_law_1159 rfl ?_
  exact V_if_eq h 1165 1163 dL_law_1160 (by decide) rfl (fun _ => hend) (fun z => absurd lg_cmp_0 z)

set_option maxRecDepth 100000 in
set_option maxHeartbeats 4000000 in
theorem k_ofLoan {Γ : mC} {κ : mKp} {Q : State → Prop} (h : mOk Γ κ RL cL_law 9 (Option.some Jvm.ClassFile.FieldType.boolean) { frames := 13, cells := 771262, slots := 6782320, locals := 468 }) (hT : mOkN Γ) (hst : κ.1.stackTraces = false) {bs Ls : Nat} {xs : Nat → Int32} (hX : mScr Γ bs Ls xs) (hLs : Ls < 2 ^ 31) {i : Nat} (hi : i + 5 ≤ Ls) {b cn kc ks n : Nat} {sh : mSh} {P : mPt} {D : mDt} {E : mEt} (hI : lI b cn n sh P D) (hcn : cn ≤ 599) (hkc : kc + 1400 ≤ 771262) (hks : ks + 10600 ≤ 6782320) (kk : ∀ n2 sh2 P2 D2 E2, lI b (cn + 1) n2 sh2 P2 D2 → mV Γ Q (kc + 1400) (ks + 10600) n2 sh2 P2 D2 E2 [(0, .ref bs), (1, .ref b), (2, .ref (b + 61)), (3, .ref (b + 94)), (4, .int (nI i))] [] 1711) : mV Γ Q kc ks n sh P D E [(0, .ref bs), (1, .ref b), (2, .ref (b + 61)), (3, .ref (b + 94)), (4, .int (nI i))] [] 1168 := by
  obtain ⟨L, e, ρ, m, k, dd, lo, hJ⟩ := hI
  obtain ⟨hs, hL, hG, hN2, hN3, hS⟩ := id hJ
  have hcI := hG.1
  have hB := hs.1
  refine V_aload_n h 1169 1 rfl dL_law_1168 rfl ?_
  refine V_aload_n h 1170 0 rfl dL_law_1169 rfl ?_
  refine V_iload h 1172 4 rfl dL_law_1170 rfl ?_
  refine V_iconst h 1173 (v := 1) (by decide) dL_law_1172 rfl ?_
  refine V_iadd h 1174 dL_law_1173 rfl ?_
  refine V_sld h hX 1175 (i + 1) (nI_add (a := i) (b := 1)) (by omega) hLs dL_law_1174 rfl ?_
  refine V_aload_n h 1176 0 rfl dL_law_1175 rfl ?_
  refine V_iload h 1178 4 rfl dL_law_1176 rfl ?_
  refine V_iconst h 1179 (v := 2) (by decide) dL_law_1178 rfl ?_
  refine V_iadd h 1180 dL_law_1179 rfl ?_
  refine V_sld h hX 1181 (i + 2) (nI_add (a := i) (b := 2)) (by omega) hLs dL_law_1180 rfl ?_
  refine V_aload_n h 1182 3 rfl dL_law_1181 rfl ?_
  refine V_callSW h hT 1185 (As := [.ref b, .int (xs (i + 1)), .int (xs (i + 2)), .ref (b + 94)]) (st := []) (l_ofLoan hB.1 hs.2.2.2.1 (xs (i + 1)) (xs (i + 2)) (c_ofLoan hst hB hcI (xs (i + 1)) (xs (i + 2))) Kx_IA) qL_L_138 qT_L_ofLoan qZ_L qW_L_ofLoan hd_L_ofLoan ⟨Nat.le_of_ble_eq_true rfl, Nat.le_of_ble_eq_true rfl⟩ (Nat.le_of_ble_eq_true rfl) rfl rfl dL_law_1182 ⟨by show kc + 2 ≤ 771262; omega, by show ks + 12 ≤ 6782320; omega⟩ (fun v1 n1 S1 P1 D1 E1 hq1 => ?_)
  obtain ⟨hn1, q2, q3, kd, q5, hA⟩ := hq1
  rw [q2, q3, q5]
  dsimp only at hA
  have hs1 := lSt_up hs hn1
  have h95 := hs1.2.2.2.2
  have fr : fR b D D1 := by
    rcases hA with ⟨-, r, hr, -⟩ | ⟨X, -, -, q, -⟩
    · rw [hr.2.2.2]; exact fR_rfl
    · rw [q]; exact fR_rfl
  have hS1 := lJ_mid hJ (D1 := D1) (fun a ha => fr a (Or.inr (by omega)))
  refine V_istore h 1187 [(5, .int kd), (0, .ref bs), (1, .ref b), (2, .ref (b + 61)), (3, .ref (b + 94)), (4, .int (nI i))] (by decide) rfl dL_law_1185 rfl ?_
  refine V_aload_n h 1188 3 rfl dL_law_1187 rfl ?_
  refine V_aload_n h 1189 1 rfl dL_law_1188 rfl ?_
  refine V_iload h 1191 5 rfl dL_law_1189 rfl ?_
  refine V_iconst h 1192 (v := 1) (by decide) dL_law_1191 rfl ?_
  refine V_iadd h 1193 dL_law_1192 rfl ?_
  refine V_sld h hX 1194 (i + 1) (nI_add (a := i) (b := 1)) (by omega) hLs dL_law_1193 rfl ?_
  refine V_aload_n h 1195 1 rfl dL_law_1194 rfl ?_
  refine V_iload h 1197 5 rfl dL_law_1195 rfl ?_
  refine V_iconst h 1198 (v := 2) (by decide) dL_law_1197 rfl ?_
  refine V_iadd h 1199 dL_law_1198 rfl ?_
  refine V_sld h hX 1200 (i + 2) (nI_add (a := i) (b := 2)) (by omega) hLs dL_law_1199 rfl ?_
  refine CVI h 1203 (As := [.int (xs (i + 1)), .int (xs (i + 2))]) (q_ofLoan hs1.2.1 hs1.2.2.1 (by omega) hL hS1 hcI (xs (i + 1)) (xs (i + 2))) rfl hs1.2.1 qL_L_140 qI_X7_ofLoan qS_X7_ofLoan qZ_X7 qC_X7_ofLoan hd_X7_ofLoan ⟨Nat.le_of_ble_eq_true rfl, Nat.le_of_ble_eq_true rfl⟩ (Nat.le_of_ble_eq_true rfl) rfl rfl dL_law_1200 (by show kc + 2 ≤ 771262; omega) (by show ks + 12 ≤ 6782320; omega) (fun ans D2 hq2 => ?_)
  obtain ⟨hR, hD2q⟩ := hq2
  have hn2 : n1 ≤ n1 := Nat.le_refl _
  have hs2 : ∀ a, a < n1 → sh a = sh a := fun _ _ => rfl
  have hP2 : ∀ a, a < n1 → a ≠ b + 62 + 13 → P a = P a := fun _ _ _ => rfl
  have hL2 := hL
  have hD2 : ∀ a, a < n1 → (a < b + 61 ∨ b + 62 + 32 ≤ a) → D2 a = D1 a := fun a _ ha => hD2q a ha
  have hF : kd = D2 (b + 61) 0 ∧ (kd = 0 → E1 (b + 94) 0 = ans.toInt64) ∧ lI b (cn + 1) n1 sh P D2 := by
    rcases hA with ⟨k0, r, res, eE⟩ | ⟨X, hKX, kX, eD, -⟩
    · obtain ⟨t0, ok⟩ := l_ok (⟨res.1, res.2.1, trivial⟩) hR
      obtain ⟨g1, g2, ⟨i1, j1, hi1, hj1, hx, hw, rr⟩, rfl⟩ := res
      obtain ⟨⟨i2, j2, hi2, hj2, hx2, hw2, ra⟩, R⟩ := ok
      have hm8 := hcI.1.2.2.2.1.1
      have hk8 := hcI.1.2.2.2.2.2.1
      have hii : i2 = i1 := nI_j (hx2.symm.trans hx) (by omega) (by omega)
      have hjj : j2 = j1 := nI_j (hw2.symm.trans hw) (by omega) (by omega)
      subst hii
      subst hjj
      exact ⟨k0.trans t0.symm, fun _ => by rw [eE, updE_at, rr, ra], lI_next hs1 hn2 hs2 hP2 hL2 hD2 (gI_c hG (Nat.le_succ _)) hN2 hN3 R⟩
    · obtain ⟨e1, ne, same⟩ := l_no (cd := cdIA) (fun _ => by decide) (by first | rfl | decide) (fun z => absurd trivial z) (by decide) (by decide) hKX kX hR
      subst eD
      exact ⟨e1, fun z => absurd z ne, lI_next hs1 hn2 hs2 hP2 hL2 hD2 (gI_c hG (Nat.le_succ _)) hN2 hN3 same⟩
  obtain ⟨hk, hv, hI2⟩ := hF
  have hI2s := hI2
  obtain ⟨_, _, _, _, _, _, _, hJ2, -⟩ := hI2s
  refine V_istore h 1205 [(6, .int ans), (5, .int kd), (0, .ref bs), (1, .ref b), (2, .ref (b + 61)), (3, .ref (b + 94)), (4, .int (nI i))] (by decide) rfl dL_law_1203 rfl ?_
  refine V_aload_n h 1206 4 rfl dL_law_1205 rfl ?_
  refine CVI h 1209 (As := []) (q_thrown hJ2.2.1) rfl hJ2.2.1 qL_L_92 qI_X7_thrown qS_X7_thrown qZ_X7 qC_X7_thrown hd_X7_thrown ⟨Nat.le_of_ble_eq_true rfl, Nat.le_of_ble_eq_true rfl⟩ (Nat.le_of_ble_eq_true rfl) rfl rfl dL_law_1206 (by show kc + 2 + 0 ≤ 771262; omega) (by show ks + 12 + 0 ≤ 6782320; omega) (fun th D3 hq3 => ?_)
  rw [hq3.1, hq3.2]
  refine V_iload h 1211 1 rfl dL_law_1209 rfl ?_
  refine V_icmp_eq h 1216 1214 dL_law_1211 (by decide) rfl (fun _ => ?_) (fun z => absurd hk.symm z)
  refine V_iload h 1218 1 rfl dL_law_1216 rfl ?_
  have hend : mV Γ Q (kc + 2 + 0) (ks + 12 + 0) n1 sh P D2 E1 [(6, .int ans), (5, .int kd), (0, .ref bs), (1, .ref b), (2, .ref (b + 61)), (3, .ref (b + 94)), (4, .int (nI i))] [] 1233 := by
    refine V_goto h 1711 dL_law_1233 (by decide) ?_
    refine V_lsub [(0, .ref bs), (1, .ref b), (2, .ref (b + 61)), (3, .ref (b + 94)), (4, .int (nI i))] [2, 3, 4, 5, 6] rfl ?_
    exact V_widen (kc + 1400) (ks + 10600) (by omega) (by omega) (kk _ _ _ _ _ hI2)
  refine V_if_ne h 1233 1221 dL_law_1218 (by decide) rfl (fun _ => hend) (fun z0 => ?_)
  refine V_aload_n h 1222 5 rfl dL_law_1221 rfl ?_
  refine V_iconst h 1223 (v := 0) (by decide) dL_law_1222 rfl ?_
  refine V_lald h 1224 0 hJ2.2.2.2.1 rfl (by decide) (by decide) dL_law_1223 rfl ?_
  rw [hv z0]
  refine V_iload h 1226 0 rfl dL_law_1224 rfl ?_
  refine V_i2l h 1227 dL_law_1226 rfl ?_
  refine V_lcmp h 1228 dL_law_1227 rfl ?_
  exact V_if_eq h 1233 1231 dL_law_1228 (by decide) rfl (fun _ => hend) (fun z => absurd lg_cmp_0 z)

set_option maxRecDepth 100000 in
set_option maxHeartbeats 4000000 in
theorem k_ofSale {Γ : mC} {κ : mKp} {Q : State → Prop} (h : mOk Γ κ RL cL_law 9 (Option.some Jvm.ClassFile.FieldType.boolean) { frames := 13, cells := 771262, slots := 6782320, locals := 468 }) (hT : mOkN Γ) (hst : κ.1.stackTraces = false) {bs Ls : Nat} {xs : Nat → Int32} (hX : mScr Γ bs Ls xs) (hLs : Ls < 2 ^ 31) {i : Nat} (hi : i + 5 ≤ Ls) {b cn kc ks n : Nat} {sh : mSh} {P : mPt} {D : mDt} {E : mEt} (hI : lI b cn n sh P D) (hcn : cn ≤ 599) (hkc : kc + 1400 ≤ 771262) (hks : ks + 10600 ≤ 6782320) (kk : ∀ n2 sh2 P2 D2 E2, lI b (cn + 1) n2 sh2 P2 D2 → mV Γ Q (kc + 1400) (ks + 10600) n2 sh2 P2 D2 E2 [(0, .ref bs), (1, .ref b), (2, .ref (b + 61)), (3, .ref (b + 94)), (4, .int (nI i))] [] 1711) : mV Γ Q kc ks n sh P D E [(0, .ref bs), (1, .ref b), (2, .ref (b + 61)), (3, .ref (b + 94)), (4, .int (nI i))] [] 1236 := by
  obtain ⟨L, e, ρ, m, k, dd, lo, hJ⟩ := hI
  obtain ⟨hs, hL, hG, hN2, hN3, hS⟩ := id hJ
  have hcI := hG.1
  have hB := hs.1
  refine V_aload_n h 1237 1 rfl dL_law_1236 rfl ?_
  refine V_aload_n h 1238 0 rfl dL_law_1237 rfl ?_
  refine V_iload h 1240 4 rfl dL_law_1238 rfl ?_
  refine V_iconst h 1241 (v := 1) (by decide) dL_law_1240 rfl ?_
  refine V_iadd h 1242 dL_law_1241 rfl ?_
  refine V_sld h hX 1243 (i + 1) (nI_add (a := i) (b := 1)) (by omega) hLs dL_law_1242 rfl ?_
  refine V_aload_n h 1244 0 rfl dL_law_1243 rfl ?_
  refine V_iload h 1246 4 rfl dL_law_1244 rfl ?_
  refine V_iconst h 1247 (v := 2) (by decide) dL_law_1246 rfl ?_
  refine V_iadd h 1248 dL_law_1247 rfl ?_
  refine V_sld h hX 1249 (i + 2) (nI_add (a := i) (b := 2)) (by omega) hLs dL_law_1248 rfl ?_
  refine V_aload_n h 1250 3 rfl dL_law_1249 rfl ?_
  refine V_callSW h hT 1253 (As := [.ref b, .int (xs (i + 1)), .int (xs (i + 2)), .ref (b + 94)]) (st := []) (l_ofSale hB.1 hs.2.2.2.1 (xs (i + 1)) (xs (i + 2)) (c_ofSale hst hB hcI (xs (i + 1)) (xs (i + 2))) Kx_IA) qL_L_141 qT_L_ofSale qZ_L qW_L_ofSale hd_L_ofSale ⟨Nat.le_of_ble_eq_true rfl, Nat.le_of_ble_eq_true rfl⟩ (Nat.le_of_ble_eq_true rfl) rfl rfl dL_law_1250 ⟨by show kc + 2 ≤ 771262; omega, by show ks + 12 ≤ 6782320; omega⟩ (fun v1 n1 S1 P1 D1 E1 hq1 => ?_)
  obtain ⟨hn1, q2, q3, kd, q5, hA⟩ := hq1
  rw [q2, q3, q5]
  dsimp only at hA
  have hs1 := lSt_up hs hn1
  have h95 := hs1.2.2.2.2
  have fr : fR b D D1 := by
    rcases hA with ⟨-, r, hr, -⟩ | ⟨X, -, -, q, -⟩
    · rw [hr.2.2.2]; exact fR_rfl
    · rw [q]; exact fR_rfl
  have hS1 := lJ_mid hJ (D1 := D1) (fun a ha => fr a (Or.inr (by omega)))
  refine V_istore h 1255 [(5, .int kd), (0, .ref bs), (1, .ref b), (2, .ref (b + 61)), (3, .ref (b + 94)), (4, .int (nI i))] (by decide) rfl dL_law_1253 rfl ?_
  refine V_aload_n h 1256 3 rfl dL_law_1255 rfl ?_
  refine V_aload_n h 1257 1 rfl dL_law_1256 rfl ?_
  refine V_iload h 1259 5 rfl dL_law_1257 rfl ?_
  refine V_iconst h 1260 (v := 1) (by decide) dL_law_1259 rfl ?_
  refine V_iadd h 1261 dL_law_1260 rfl ?_
  refine V_sld h hX 1262 (i + 1) (nI_add (a := i) (b := 1)) (by omega) hLs dL_law_1261 rfl ?_
  refine V_aload_n h 1263 1 rfl dL_law_1262 rfl ?_
  refine V_iload h 1265 5 rfl dL_law_1263 rfl ?_
  refine V_iconst h 1266 (v := 2) (by decide) dL_law_1265 rfl ?_
  refine V_iadd h 1267 dL_law_1266 rfl ?_
  refine V_sld h hX 1268 (i + 2) (nI_add (a := i) (b := 2)) (by omega) hLs dL_law_1267 rfl ?_
  refine CVI h 1271 (As := [.int (xs (i + 1)), .int (xs (i + 2))]) (q_ofSale hs1.2.1 hs1.2.2.1 (by omega) hL hS1 hcI (xs (i + 1)) (xs (i + 2))) rfl hs1.2.1 qL_L_143 qI_X7_ofSale qS_X7_ofSale qZ_X7 qC_X7_ofSale hd_X7_ofSale ⟨Nat.le_of_ble_eq_true rfl, Nat.le_of_ble_eq_true rfl⟩ (Nat.le_of_ble_eq_true rfl) rfl rfl dL_law_1268 (by show kc + 2 ≤ 771262; omega) (by show ks + 12 ≤ 6782320; omega) (fun ans D2 hq2 => ?_)
  obtain ⟨hR, hD2q⟩ := hq2
  have hn2 : n1 ≤ n1 := Nat.le_refl _
  have hs2 : ∀ a, a < n1 → sh a = sh a := fun _ _ => rfl
  have hP2 : ∀ a, a < n1 → a ≠ b + 62 + 13 → P a = P a := fun _ _ _ => rfl
  have hL2 := hL
  have hD2 : ∀ a, a < n1 → (a < b + 61 ∨ b + 62 + 32 ≤ a) → D2 a = D1 a := fun a _ ha => hD2q a ha
  have hF : kd = D2 (b + 61) 0 ∧ (kd = 0 → E1 (b + 94) 0 = ans.toInt64) ∧ lI b (cn + 1) n1 sh P D2 := by
    rcases hA with ⟨k0, r, res, eE⟩ | ⟨X, hKX, kX, eD, -⟩
    · obtain ⟨t0, ok⟩ := l_ok (⟨res.1, res.2.1, trivial⟩) hR
      obtain ⟨g1, g2, ⟨i1, j1, hi1, hj1, hx, hw, rr⟩, rfl⟩ := res
      obtain ⟨⟨i2, j2, hi2, hj2, hx2, hw2, ra⟩, R⟩ := ok
      have hm8 := hcI.1.2.2.2.1.1
      have hk8 := hcI.1.2.2.2.2.2.1
      have hii : i2 = i1 := nI_j (hx2.symm.trans hx) (by omega) (by omega)
      have hjj : j2 = j1 := nI_j (hw2.symm.trans hw) (by omega) (by omega)
      subst hii
      subst hjj
      exact ⟨k0.trans t0.symm, fun _ => by rw [eE, updE_at, rr, ra], lI_next hs1 hn2 hs2 hP2 hL2 hD2 (gI_c hG (Nat.le_succ _)) hN2 hN3 R⟩
    · obtain ⟨e1, ne, same⟩ := l_no (cd := cdIA) (fun _ => by decide) (by first | rfl | decide) (fun z => absurd trivial z) (by decide) (by decide) hKX kX hR
      subst eD
      exact ⟨e1, fun z => absurd z ne, lI_next hs1 hn2 hs2 hP2 hL2 hD2 (gI_c hG (Nat.le_succ _)) hN2 hN3 same⟩
  obtain ⟨hk, hv, hI2⟩ := hF
  have hI2s := hI2
  obtain ⟨_, _, _, _, _, _, _, hJ2, -⟩ := hI2s
  refine V_istore h 1273 [(6, .int ans), (5, .int kd), (0, .ref bs), (1, .ref b), (2, .ref (b + 61)), (3, .ref (b + 94)), (4, .int (nI i))] (by decide) rfl dL_law_1271 rfl ?_
  refine V_aload_n h 1274 4 rfl dL_law_1273 rfl ?_
  refine CVI h 1277 (As := []) (q_thrown hJ2.2.1) rfl hJ2.2.1 qL_L_92 qI_X7_thrown qS_X7_thrown qZ_X7 qC_X7_thrown hd_X7_thrown ⟨Nat.le_of_ble_eq_true rfl, Nat.le_of_ble_eq_true rfl⟩ (Nat.le_of_ble_eq_true rfl) rfl rfl dL_law_1274 (by show kc + 2 + 0 ≤ 771262; omega) (by show ks + 12 + 0 ≤ 6782320; omega) (fun th D3 hq3 => ?_)
  rw [hq3.1, hq3.2]
  refine V_iload h 1279 1 rfl dL_law_1277 rfl ?_
  refine V_icmp_eq h 1284 1282 dL_law_1279 (by decide) rfl (fun _ => ?_) (fun z => absurd hk.symm z)
  refine V_iload h 1286 1 rfl dL_law_1284 rfl ?_
  have hend : mV Γ Q (kc + 2 + 0) (ks + 12 + 0) n1 sh P D2 E1 [(6, .int ans), (5, .int kd), (0, .ref bs), (1, .ref b), (2, .ref (b + 61)), (3, .ref (b + 94)), (4, .int (nI i))] [] 1301 := by
    refine V_goto h 1711 dL_law_1301 (by decide) ?_
    refine V_lsub [(0, .ref bs), (1, .ref b), (2, .ref (b + 61)), (3, .ref (b + 94)), (4, .int (nI i))] [2, 3, 4, 5, 6] rfl ?_
    exact V_widen (kc + 1400) (ks + 10600) (by omega) (by omega) (kk _ _ _ _ _ hI2)
  refine V_if_ne h 1301 1289 dL_law_1286 (by decide) rfl (fun _ => hend) (fun z0 => ?_)
  refine V_aload_n h 1290 5 rfl dL_law_1289 rfl ?_
  refine V_iconst h 1291 (v := 0) (by decide) dL_law_1290 rfl ?_
  refine V_lald h 1292 0 hJ2.2.2.2.1 rfl (by decide) (by decide) dL_law_1291 rfl ?_
  rw [hv z0]
  refine V_iload h 1294 0 rfl dL_law_1292 rfl ?_
  refine V_i2l h 1295 dL_law_1294 rfl ?_
  refine V_lcmp h 1296 dL_law_1295 rfl ?_
  exact V_if_eq h 1301 1299 dL_law_1296 (by decide) rfl (fun _ => hend) (fun z => absurd lg_cmp_0 z)

set_option maxRecDepth 100000 in
set_option maxHeartbeats 4000000 in
theorem k_many {Γ : mC} {κ : mKp} {Q : State → Prop} (h : mOk Γ κ RL cL_law 9 (Option.some Jvm.ClassFile.FieldType.boolean) { frames := 13, cells := 771262, slots := 6782320, locals := 468 }) (hT : mOkN Γ) (hst : κ.1.stackTraces = false) {bs Ls : Nat} {xs : Nat → Int32} (hX : mScr Γ bs Ls xs) (hLs : Ls < 2 ^ 31) {i : Nat} (hi : i + 5 ≤ Ls) {b cn kc ks n : Nat} {sh : mSh} {P : mPt} {D : mDt} {E : mEt} (hI : lI b cn n sh P D) (hcn : cn ≤ 599) (hkc : kc + 1400 ≤ 771262) (hks : ks + 10600 ≤ 6782320) (kk : ∀ n2 sh2 P2 D2 E2, lI b (cn + 1) n2 sh2 P2 D2 → mV Γ Q (kc + 1400) (ks + 10600) n2 sh2 P2 D2 E2 [(0, .ref bs), (1, .ref b), (2, .ref (b + 61)), (3, .ref (b + 94)), (4, .int (nI i))] [] 1711) : mV Γ Q kc ks n sh P D E [(0, .ref bs), (1, .ref b), (2, .ref (b + 61)), (3, .ref (b + 94)), (4, .int (nI i))] [] 1304 := by
  obtain ⟨L, e, ρ, m, k, dd, lo, hJ⟩ := hI
  obtain ⟨hs, hL, hG, hN2, hN3, hS⟩ := id hJ
  have hcI := hG.1
  have hB := hs.1
  refine V_aload_n h 1305 1 rfl dL_law_1304 rfl ?_
  refine V_aload_n h 1306 0 rfl dL_law_1305 rfl ?_
  refine V_iload h 1308 4 rfl dL_law_1306 rfl ?_
  refine V_iconst h 1309 (v := 1) (by decide) dL_law_1308 rfl ?_
  refine V_iadd h 1310 dL_law_1309 rfl ?_
  refine V_sld h hX 1311 (i + 1) (nI_add (a := i) (b := 1)) (by omega) hLs dL_law_1310 rfl ?_
  refine V_aload_n h 1312 3 rfl dL_law_1311 rfl ?_
  refine V_callSW h hT 1315 (As := [.ref b, .int (xs (i + 1)), .ref (b + 94)]) (st := []) (l_many hB.1 hs.2.2.2.1 (xs (i + 1)) (c_many hst hB hcI (xs (i + 1))) Kx_A) qL_L_144 qT_L_many qZ_L qW_L_many hd_L_many ⟨Nat.le_of_ble_eq_true rfl, Nat.le_of_ble_eq_true rfl⟩ (Nat.le_of_ble_eq_true rfl) rfl rfl dL_law_1312 ⟨by show kc + 1 ≤ 771262; omega, by show ks + 6 ≤ 6782320; omega⟩ (fun v1 n1 S1 P1 D1 E1 hq1 => ?_)
  obtain ⟨hn1, q2, q3, kd, q5, hA⟩ := hq1
  rw [q2, q3, q5]
  dsimp only at hA
  have hs1 := lSt_up hs hn1
  have h95 := hs1.2.2.2.2
  have fr : fR b D D1 := by
    rcases hA with ⟨-, r, hr, -⟩ | ⟨X, -, -, q, -⟩
    · rw [hr.2.2]; exact fR_rfl
    · rw [q]; exact fR_rfl
  have hS1 := lJ_mid hJ (D1 := D1) (fun a ha => fr a (Or.inr (by omega)))
  refine V_istore h 1317 [(5, .int kd), (0, .ref bs), (1, .ref b), (2, .ref (b + 61)), (3, .ref (b + 94)), (4, .int (nI i))] (by decide) rfl dL_law_1315 rfl ?_
  refine V_aload_n h 1318 3 rfl dL_law_1317 rfl ?_
  refine V_aload_n h 1319 1 rfl dL_law_1318 rfl ?_
  refine V_iload h 1321 5 rfl dL_law_1319 rfl ?_
  refine V_iconst h 1322 (v := 1) (by decide) dL_law_1321 rfl ?_
  refine V_iadd h 1323 dL_law_1322 rfl ?_
  refine V_sld h hX 1324 (i + 1) (nI_add (a := i) (b := 1)) (by omega) hLs dL_law_1323 rfl ?_
  refine V_callV h 1327 (rm := { frames := 3, cells := 1, slots := 16, locals := 64 }) (As := [.int (xs (i + 1))]) (q_many hs1.2.1 hs1.2.2.1 (by omega) hL hS1 hcI (by omega) (xs (i + 1))) rfl hs1.2.1 qL_L_146 qI_X7_many qS_X7_many qZ_X7 qC_X7_many hd_X7_many ⟨Nat.le_of_ble_eq_true rfl, Nat.le_of_ble_eq_true rfl⟩ (Nat.le_of_ble_eq_true rfl) rfl rfl dL_law_1324 ⟨by show kc + 1 + 1 ≤ 771262; omega, by show ks + 6 + 16 ≤ 6782320; omega⟩ (fun v2 n2 S2 P2 D2 E2 hq2 => ?_)
  obtain ⟨hn2, qE, hs2, hP2, ans, qv, lo2, hL2, hD2, hR⟩ := hq2
  rw [qv, qE]
  have hF : kd = D2 (b + 61) 0 ∧ (kd = 0 → E1 (b + 94) 0 = ans.toInt64) ∧ lI b (cn + 1) n2 S2 P2 D2 := by
    rcases hA with ⟨k0, r, res, eE⟩ | ⟨X, hKX, kX, eD, -⟩
    · obtain ⟨t0, ok⟩ := l_ok (⟨trivial, res.1, trivial⟩) hR
      obtain ⟨g2, ⟨w1, hw1, hw, rr⟩, rfl⟩ := res
      obtain ⟨⟨w2, hw2, hw', ra⟩, R⟩ := ok
      have hww : w2 = w1 := nI_j (hw'.symm.trans hw) (by omega) (by omega)
      subst hww
      exact ⟨k0.trans t0.symm, fun _ => by rw [eE, updE_at, rr, ra], lI_next hs1 hn2 hs2 hP2 hL2 hD2 (gI_c hG (Nat.le_succ _)) hN2 hN3 R⟩
    · obtain ⟨e1, ne, same⟩ := l_no (cd := cdA) (fun z => absurd trivial z) (by first | rfl | decide) (fun z => absurd trivial z) (by decide) (by decide) hKX kX hR
      subst eD
      exact ⟨e1, fun z => absurd z ne, lI_next hs1 hn2 hs2 hP2 hL2 hD2 (gI_c hG (Nat.le_succ _)) hN2 hN3 same⟩
  obtain ⟨hk, hv, hI2⟩ := hF
  have hI2s := hI2
  obtain ⟨_, _, _, _, _, _, _, hJ2, -⟩ := hI2s
  refine V_istore h 1329 [(6, .int ans), (5, .int kd), (0, .ref bs), (1, .ref b), (2, .ref (b + 61)), (3, .ref (b + 94)), (4, .int (nI i))] (by decide) rfl dL_law_1327 rfl ?_
  refine V_aload_n h 1330 4 rfl dL_law_1329 rfl ?_
  refine CVI h 1333 (As := []) (q_thrown hJ2.2.1) rfl hJ2.2.1 qL_L_92 qI_X7_thrown qS_X7_thrown qZ_X7 qC_X7_thrown hd_X7_thrown ⟨Nat.le_of_ble_eq_true rfl, Nat.le_of_ble_eq_true rfl⟩ (Nat.le_of_ble_eq_true rfl) rfl rfl dL_law_1330 (by show kc + 1 + 1 ≤ 771262; omega) (by show ks + 6 + 16 ≤ 6782320; omega) (fun th D3 hq3 => ?_)
  rw [hq3.1, hq3.2]
  refine V_iload h 1335 1 rfl dL_law_1333 rfl ?_
  refine V_icmp_eq h 1340 1338 dL_law_1335 (by decide) rfl (fun _ => ?_) (fun z => absurd hk.symm z)
  refine V_iload h 1342 1 rfl dL_law_1340 rfl ?_
  have hend : mV Γ Q (kc + 1 + 1) (ks + 6 + 16) n2 S2 P2 D2 E1 [(6, .int ans), (5, .int kd), (0, .ref bs), (1, .ref b), (2, .ref (b + 61)), (3, .ref (b + 94)), (4, .int (nI i))] [] 1357 := by
    refine V_goto h 1711 dL_law_1357 (by decide) ?_
    refine V_lsub [(0, .ref bs), (1, .ref b), (2, .ref (b + 61)), (3, .ref (b + 94)), (4, .int (nI i))] [2, 3, 4, 5, 6] rfl ?_
    exact V_widen (kc + 1400) (ks + 10600) (by omega) (by omega) (kk _ _ _ _ _ hI2)
  refine V_if_ne h 1357 1345 dL_law_1342 (by decide) rfl (fun _ => hend) (fun z0 => ?_)
  refine V_aload_n h 1346 5 rfl dL_law_1345 rfl ?_
  refine V_iconst h 1347 (v := 0) (by decide) dL_law_1346 rfl ?_
  refine V_lald h 1348 0 hJ2.2.2.2.1 rfl (by decide) (by decide) dL_law_1347 rfl ?_
  rw [hv z0]
  refine V_iload h 1350 0 rfl dL_law_1348 rfl ?_
  refine V_i2l h 1351 dL_law_1350 rfl ?_
  refine V_lcmp h 1352 dL_law_1351 rfl ?_
  exact V_if_eq h 1357 1355 dL_law_1352 (by decide) rfl (fun _ => hend) (fun z => absurd lg_cmp_0 z)
